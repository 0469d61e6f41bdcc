/-! THE LAW'S TEXT, BY THE MODEL -/
def mcd (x : Int) : Int := if x < 1000 then 10 else if x < 1010 then x - 1000 else if x = 2043 then 11 else if x = 2060 then 12 else if x = 2062 then 13 else if x = 1023 then 14 else if x = 1022 then 15 else 16
def mnu (x : Int) : Int := if x < 1000 then x else 0
/-- n lines and c steps of u stand in the draft -/
def LaM (M : Nat) (h : Hc) (u : Nat → Int) (n c : Nat) : Prop := h M 16 = (c : Int) ∧ (∀ i, i < c → h (M + 1) (1414 + 2 * i) = mcd (u i) ∧ h (M + 1) (1415 + 2 * i) = mnu (u i)) ∧ ∀ i, i < n → h (M + 1) (1366 + 4 * i) = u (400 + 3 * i) - 1017 ∧ h (M + 1) (1367 + 4 * i) = u (401 + 3 * i) ∧ h (M + 1) (1368 + 4 * i) = (if i = 0 then 0 else u (402 + 3 * (i - 1))) ∧ h (M + 1) (1369 + 4 * i) = u (402 + 3 * i)
def MvY (M : Nat) (h h' : Hc) : Prop := ∀ a i, ¬ (a = M ∧ (i = 10 ∨ i = 12 ∨ i = 13 ∨ i = 16)) → ¬ (a = M + 1 ∧ 1414 ≤ i) → h' a i = h a i
def MvE (M : Nat) (h h' : Hc) : Prop := ∀ a i, ¬ (a = M ∧ i = 16) → ¬ (a = M + 1 ∧ 1414 ≤ i) → h' a i = h a i
theorem MvM.y {M : Nat} {h h' : Hc} (p : MvM M h h') : MvY M h h' := fun a i n _ => p a i (fun q => n ⟨q.1, q.2.elim Or.inl (fun q2 => Or.inr (Or.inl q2))⟩)
theorem MvE.y {M : Nat} {h h' : Hc} (p : MvE M h h') : MvY M h h' := fun a i n m => p a i (fun q => n ⟨q.1, Or.inr (Or.inr (Or.inr q.2))⟩) m
theorem MvY.rf {M : Nat} {h : Hc} : MvY M h h := fun _ _ _ _ => rfl
theorem MvY.tr {M : Nat} {h1 h2 h3 : Hc} (p : MvY M h1 h2) (q : MvY M h2 h3) : MvY M h1 h3 := fun a i n m => (q a i n m).trans (p a i n m)
theorem MvY.dp {M : Nat} {h h' : Hc} {v : Int} (p : MvY M h h') : MvY M h (updH h' M 13 v) := by
  intro a j n m
  by_cases e : a = M
  · subst e
    rw [updH_i (fun e2 => n ⟨rfl, Or.inr (Or.inr (Or.inl e2))⟩)]
    exact p a j n m
  · rw [updH_a e]
    exact p a j n m
theorem StM.o {M : Nat} {h h' : Hc} {b : Nat → Int} {L k : Nat} (q : StM M h b L k) (e10 : h' M 10 = h M 10) (e11 : h' M 11 = h M 11) (e6 : h' (M + 6) = h (M + 6)) : StM M h' b L k := by
  obtain ⟨p, ⟨a1, a2, a3, a4, a5⟩, h2, h3⟩ := q
  exact ⟨p, ⟨e10.trans a1, e11.trans a2, a3, a4, fun i hi => by rw [e6]; exact a5 i hi⟩, h2, h3⟩
theorem MvE.st {M : Nat} {h h' : Hc} {b : Nat → Int} {L k : Nat} (p : MvE M h h') (q : StM M h b L k) : StM M h' b L k := q.o (p M 10 (by omega) (by omega)) (p M 11 (by omega) (by omega)) (funext fun i => p (M + 6) i (by omega) (by omega))
theorem StM.dp {M : Nat} {h : Hc} {b : Nat → Int} {L k : Nat} {v : Int} (q : StM M h b L k) : StM M (updH h M 13 v) b L k := q.o (updH_i (by decide)) (updH_i (by decide)) (updH_a (by omega))
theorem LaM.o {M : Nat} {h h' : Hc} {u : Nat → Int} {n c : Nat} (q : LaM M h u n c) (e16 : h' M 16 = h M 16) (e1 : h' (M + 1) = h (M + 1)) : LaM M h' u n c := by
  unfold LaM
  rw [e16, e1]
  exact q
theorem MvM.la {M : Nat} {h h' : Hc} {u : Nat → Int} {n c : Nat} (p : MvM M h h') (q : LaM M h u n c) : LaM M h' u n c := q.o (p M 16 (by omega)) (p.a (by omega))
theorem LaM.dp {M : Nat} {h : Hc} {u : Nat → Int} {n c : Nat} {v : Int} (q : LaM M h u n c) : LaM M (updH h M 13 v) u n c := q.o (updH_i (by decide)) (updH_a (by omega))
theorem LaM.em {M : Nat} {h : Hc} {u : Nat → Int} {n c : Nat} (q : LaM M h u n c) (hn : n ≤ 12) (hc : c < 400) {a cd nn : Int} (e1 : mcd a = cd) (e2 : mnu a = nn) : LaM M (updH (updH (updH h (M + 1) (1414 + 2 * c) cd) (M + 1) (1415 + 2 * c) nn) M 16 (((c + 1 : Nat)) : Int)) (updW u c a) n (c + 1) := by
  obtain ⟨q0, q1, q2⟩ := q
  refine ⟨updH_s _ _ _ _, fun i hi => ?_, fun i hi => ?_⟩
  · rw [updH_a (by omega)]
    by_cases e : i = c
    · subst e
      refine ⟨?_, ?_⟩
      · rw [updH_i (by omega), updH_s, updW_s, e1]
      · rw [updH_s, updW_s, e2]
    · have := q1 i (by omega)
      rw [updW_n e]
      refine ⟨?_, ?_⟩
      · rw [updH_i (by omega), updH_i (by omega)]; exact this.1
      · rw [updH_i (by omega), updH_i (by omega)]; exact this.2
  · have := q2 i hi
    rw [updH_a (by omega), updW_n (by omega), updW_n (by omega), updW_n (by omega), updW_n (by omega)]
    refine ⟨?_, ?_, ?_, ?_⟩
    · rw [updH_i (by omega), updH_i (by omega)]; exact this.1
    · rw [updH_i (by omega), updH_i (by omega)]; exact this.2.1
    · rw [updH_i (by omega), updH_i (by omega)]; exact this.2.2.1
    · rw [updH_i (by omega), updH_i (by omega)]; exact this.2.2.2
theorem LaM.me {M : Nat} {h : Hc} {c : Nat} {cd nn v : Int} : MvE M h (updH (updH (updH h (M + 1) (1414 + 2 * c) cd) (M + 1) (1415 + 2 * c) nn) M 16 v) := by
  intro a i n m
  by_cases e : a = M
  · subst e
    rw [updH_i (fun e2 => n ⟨rfl, e2⟩), updH_a (by omega), updH_a (by omega)]
  · rw [updH_a e]
    by_cases e1 : a = M + 1
    · subst e1
      rw [updH_i (by omega), updH_i (by omega)]
    · rw [updH_a e1, updH_a e1]
theorem LeM.same {M : Nat} {h : Hc} {b : Nat → Int} {L k : Nat} (q : LeM M h b L k) (e : lsT b L (stT b L k) = stT b L k) : StM M h b L k ∧ ¬ (1000 ≤ thT b L k ∧ thT b L k < 1030) := by
  refine ⟨⟨_, q.1, by rw [e]; exact stT_nx k, q.2.2⟩, fun hq => ?_⟩
  have hle := stT_le (b := b) (L := L) k
  have hb := q.1.b0
  unfold thT at hq
  rcases thS_cases b L (stT b L k) with ⟨_, q9⟩ | ⟨q0, q1, _⟩ | ⟨_, _, _, ⟨_, q9⟩ | ⟨_, _, q1, q2⟩⟩ | ⟨q1, _, _, q9⟩
  · omega
  · have := (enT_gt (b := b) q0).1
    rw [ls_en q0 q1] at this
    omega
  · omega
  · omega
  · have := hb _ q1
    omega
theorem LeM.word {M : Nat} {h : Hc} {b : Nat → Int} {L k : Nat} (q : LeM M h b L k) (e : ¬ lsT b L (stT b L k) = stT b L k) : 1000 ≤ thT b L k := by
  have hle := stT_le (b := b) (L := L) k
  unfold thT
  rcases thS_cases b L (stT b L k) with ⟨q9, _⟩ | ⟨q0, q1, q9 | ⟨i, q8, q9⟩⟩ | ⟨q0, q1, _⟩ | ⟨q0, q1, _⟩
  · exact absurd (skL_ge (q := fun i => isLB (b i)) q9) e
  · omega
  · omega
  · exact absurd (skL_f (q := fun i => isLB (b i)) (L := L) q1) e
  · exact absurd (skL_f (q := fun i => isLB (b i)) (L := L) q1) e
set_option maxHeartbeats 400000 in
theorem C_X12_emits {d : Nat} {g : Gs} {h : Hc} {P : Po} {M : Nat} (hG : MdG g M) {u : Nat → Int} {n c : Nat} (hD : LaM M h u n c) (hn : n ≤ 12) (hc : c < 400) {cd nn : Int} (K : ∀ h', MvE M h h' → (∀ a, mcd a = cd → mnu a = nn → LaM M h' (updW u c a) n (c + 1)) → P (.inl none) g h') : Call (d + 0) 0 0 mX12_emits [vR M, vI cd, vI nn] g h P := by
  refine Call_of rfl ⟨by decide +kernel, rfl⟩ (Nat.le_of_ble_eq_true rfl) rfl ?_
  refine aL0 dX12_emits_0 ?_
  refine R_getR dX12_emits_1 fX12_13.r hG.o rfl ?_
  refine R_sipush dX12_emits_4 (by decide) ?_
  refine R_iconst_2 dX12_emits_7 ?_
  refine aL0 dX12_emits_8 ?_
  refine R_getI dX12_emits_9 fX12_200.r hG.o ?_
  refine topV (v := ((c : Nat) : Int)) (hD.1) ?_
  refine mulV dX12_emits_12 (v := (((2 * c) : Nat) : Int)) (by rw [wid (by omega) (by omega)]; omega) ?_
  refine addV dX12_emits_13 (v := (((1414 + (2 * c)) : Nat) : Int)) (by rw [wid (by omega) (by omega)]; omega) ?_
  refine iL1 dX12_emits_14 ?_
  refine iastN dX12_emits_15 hG.a1 rfl (by omega) ?_
  refine aL0 dX12_emits_16 ?_
  refine R_getR dX12_emits_17 fX12_13.r hG.o rfl ?_
  refine R_sipush dX12_emits_20 (by decide) ?_
  refine R_iconst_2 dX12_emits_23 ?_
  refine aL0 dX12_emits_24 ?_
  refine R_getI dX12_emits_25 fX12_200.r hG.o ?_
  refine topV (v := ((c : Nat) : Int)) (by rw [updH_a (by omega)]; exact hD.1) ?_
  refine mulV dX12_emits_28 (v := (((2 * c) : Nat) : Int)) (by rw [wid (by omega) (by omega)]; omega) ?_
  refine addV dX12_emits_29 (v := (((1414 + (2 * c)) : Nat) : Int)) (by rw [wid (by omega) (by omega)]; omega) ?_
  refine R_iconst_1 dX12_emits_30 ?_
  refine addV dX12_emits_31 (v := ((((1414 + (2 * c)) + 1) : Nat) : Int)) (by rw [wid (by omega) (by omega)]; omega) ?_
  refine iL2 dX12_emits_32 ?_
  refine iastN dX12_emits_33 hG.a1 rfl (by omega) ?_
  refine aL0 dX12_emits_34 ?_
  refine dupR dX12_emits_35 ?_
  refine R_getI dX12_emits_36 fX12_200.r hG.o ?_
  refine topV (v := ((c : Nat) : Int)) (by rw [updH_a (by omega), updH_a (by omega)]; exact hD.1) ?_
  refine R_iconst_1 dX12_emits_39 ?_
  refine addV dX12_emits_40 (v := (((c + 1) : Nat) : Int)) (by rw [wid (by omega) (by omega)]; omega) ?_
  refine R_putI dX12_emits_41 fX12_200 hG.o ?_
  exact R_vret dX12_emits_44 rfl (by rw [show 1414 + 2 * c + 1 = 1415 + 2 * c by omega]; exact K _ LaM.me (fun a e1 e2 => hD.em hn hc e1 e2))
set_option maxHeartbeats 400000 in
theorem C_X12_wordOfPart {d : Nat} {g : Gs} {h : Hc} {P : Po} {M : Nat} (hG : MdG g M) {b : Nat → Int} {L : Nat} {k : Nat} (hL : LeM M h b L k) (K : P (.inl (some (vI (if 1000 ≤ thT b L k ∧ thT b L k ≤ 1006 then thT b L k - 1000 else -1)))) g h) : Call (d + 5) 0 0 mX12_wordOfPart [vR M] g h P := by
  refine Call_of rfl ⟨by decide +kernel, rfl⟩ (Nat.le_of_ble_eq_true rfl) rfl ?_
  refine aL0 dX12_wordOfPart_0 ?_
  refine R_ldcS (i := 8) dX12_wordOfPart_1 rfl ?_
  refine invV1 rfl dX12_wordOfPart_3 kX12_137 hG.o (Nat.le_of_ble_eq_true rfl) (Nat.zero_le _) (Nat.zero_le _) (C_isWord hG hL 8 0 (by decide) (by decide) sw_8 (konI ?_))
  refine R_ifB_eq dX12_wordOfPart_6 (fun hb6 => ?_) (fun hb6 => ?_)
  · have c0 : ¬ thT b L k = 1000 := by have := of_decide_eq_false hb6; omega
    refine aL0 dX12_wordOfPart_11 ?_
    refine R_ldcS (i := 3) dX12_wordOfPart_12 rfl ?_
    refine invV1 rfl dX12_wordOfPart_14 kX12_137 hG.o (Nat.le_of_ble_eq_true rfl) (Nat.zero_le _) (Nat.zero_le _) (C_isWord hG hL 3 1 (by decide) (by decide) sw_3 (konI ?_))
    refine R_ifB_eq dX12_wordOfPart_17 (fun hb17 => ?_) (fun hb17 => ?_)
    · have c1 : ¬ thT b L k = 1001 := by have := of_decide_eq_false hb17; omega
      refine aL0 dX12_wordOfPart_22 ?_
      refine R_ldcS (i := 2) dX12_wordOfPart_23 rfl ?_
      refine invV1 rfl dX12_wordOfPart_25 kX12_137 hG.o (Nat.le_of_ble_eq_true rfl) (Nat.zero_le _) (Nat.zero_le _) (C_isWord hG hL 2 2 (by decide) (by decide) sw_2 (konI ?_))
      refine R_ifB_eq dX12_wordOfPart_28 (fun hb28 => ?_) (fun hb28 => ?_)
      · have c2 : ¬ thT b L k = 1002 := by have := of_decide_eq_false hb28; omega
        refine aL0 dX12_wordOfPart_33 ?_
        refine R_ldcS (i := 14) dX12_wordOfPart_34 rfl ?_
        refine invV1 rfl dX12_wordOfPart_36 kX12_137 hG.o (Nat.le_of_ble_eq_true rfl) (Nat.zero_le _) (Nat.zero_le _) (C_isWord hG hL 14 3 (by decide) (by decide) sw_14 (konI ?_))
        refine R_ifB_eq dX12_wordOfPart_39 (fun hb39 => ?_) (fun hb39 => ?_)
        · have c3 : ¬ thT b L k = 1003 := by have := of_decide_eq_false hb39; omega
          refine aL0 dX12_wordOfPart_44 ?_
          refine R_ldcS (i := 5) dX12_wordOfPart_45 rfl ?_
          refine invV1 rfl dX12_wordOfPart_47 kX12_137 hG.o (Nat.le_of_ble_eq_true rfl) (Nat.zero_le _) (Nat.zero_le _) (C_isWord hG hL 5 4 (by decide) (by decide) sw_5 (konI ?_))
          refine R_ifB_eq dX12_wordOfPart_50 (fun hb50 => ?_) (fun hb50 => ?_)
          · have c4 : ¬ thT b L k = 1004 := by have := of_decide_eq_false hb50; omega
            refine aL0 dX12_wordOfPart_55 ?_
            refine R_ldcS (i := 6) dX12_wordOfPart_56 rfl ?_
            refine invV1 rfl dX12_wordOfPart_58 kX12_137 hG.o (Nat.le_of_ble_eq_true rfl) (Nat.zero_le _) (Nat.zero_le _) (C_isWord hG hL 6 5 (by decide) (by decide) sw_6 (konI ?_))
            refine R_ifB_eq dX12_wordOfPart_61 (fun hb61 => ?_) (fun hb61 => ?_)
            · have c5 : ¬ thT b L k = 1005 := by have := of_decide_eq_false hb61; omega
              refine aL0 dX12_wordOfPart_66 ?_
              refine R_ldcS (i := 12) dX12_wordOfPart_67 rfl ?_
              refine invV1 rfl dX12_wordOfPart_69 kX12_137 hG.o (Nat.le_of_ble_eq_true rfl) (Nat.zero_le _) (Nat.zero_le _) (C_isWord hG hL 12 6 (by decide) (by decide) sw_12 (konI ?_))
              refine R_ifB_eq dX12_wordOfPart_72 (fun hb72 => ?_) (fun hb72 => ?_)
              · have c6 : ¬ thT b L k = 1006 := by have := of_decide_eq_false hb72; omega
                refine R_iconst_m1 dX12_wordOfPart_80 ?_
                exact R_iret dX12_wordOfPart_81 rfl (PeqI K (by rw [if_neg (by omega)]))
              · have c6 : thT b L k = 1006 := by have := of_decide_eq_true hb72; omega
                refine R_bipush dX12_wordOfPart_75 (by decide) ?_
                refine R_goto dX12_wordOfPart_77 ?_
                exact R_iret dX12_wordOfPart_81 rfl (PeqI K (by rw [if_pos (by omega)]; omega))
            · have c5 : thT b L k = 1005 := by have := of_decide_eq_true hb61; omega
              refine R_iconst_5 dX12_wordOfPart_64 ?_
              exact R_iret dX12_wordOfPart_65 rfl (PeqI K (by rw [if_pos (by omega)]; omega))
          · have c4 : thT b L k = 1004 := by have := of_decide_eq_true hb50; omega
            refine R_iconst_4 dX12_wordOfPart_53 ?_
            exact R_iret dX12_wordOfPart_54 rfl (PeqI K (by rw [if_pos (by omega)]; omega))
        · have c3 : thT b L k = 1003 := by have := of_decide_eq_true hb39; omega
          refine R_iconst_3 dX12_wordOfPart_42 ?_
          exact R_iret dX12_wordOfPart_43 rfl (PeqI K (by rw [if_pos (by omega)]; omega))
      · have c2 : thT b L k = 1002 := by have := of_decide_eq_true hb28; omega
        refine R_iconst_2 dX12_wordOfPart_31 ?_
        exact R_iret dX12_wordOfPart_32 rfl (PeqI K (by rw [if_pos (by omega)]; omega))
    · have c1 : thT b L k = 1001 := by have := of_decide_eq_true hb17; omega
      refine R_iconst_1 dX12_wordOfPart_20 ?_
      exact R_iret dX12_wordOfPart_21 rfl (PeqI K (by rw [if_pos (by omega)]; omega))
  · have c0 : thT b L k = 1000 := by have := of_decide_eq_true hb6; omega
    refine R_iconst_0 dX12_wordOfPart_9 ?_
    exact R_iret dX12_wordOfPart_10 rfl (PeqI K (by rw [if_pos (by omega)]; omega))
def PtM (M : Nat) (h : Hc) (b : Nat → Int) (L : Nat) (u : Nat → Int) (n c k : Nat) (lo hi v : Int) : Prop := (v = 1 ∧ (lo ≤ thT b L k ∧ thT b L k ≤ hi) ∧ StM M h b L (k + 1) ∧ LaM M h (updW u c (thT b L k)) n (c + 1)) ∨ (v = 0 ∧ ¬ (lo ≤ thT b L k ∧ thT b L k ≤ hi) ∧ WrM M h b L k)
theorem mcd_n {x : Int} (h : x < 1000) : mcd x = 10 := if_pos h
theorem mcd_w {x : Int} (h : 1000 ≤ x ∧ x < 1010) : mcd x = x - 1000 := (if_neg (by omega)).trans (if_pos h.2)
theorem mnu_n {x : Int} (h : x < 1000) : mnu x = x := if_pos h
theorem mnu_w {x : Int} (h : 1000 ≤ x) : mnu x = 0 := if_neg (by omega)
set_option maxHeartbeats 400000 in
theorem C_X12_readPart {d : Nat} {g : Gs} {h : Hc} {P : Po} {M : Nat} (hG : MdG g M) {b : Nat → Int} {L : Nat} {k : Nat} (hT : StM M h b L k) {u : Nat → Int} {n c : Nat} (hD : LaM M h u n c) (hn : n ≤ 12) (hck : c + 3 ≤ k) (K : ∀ h' (v : Int), MvY M h h' → h' M 13 = h M 13 → PtM M h' b L u n c k 0 1006 v → P (.inl (some (vI v))) g h') : Call (d + 6) 0 0 mX12_readPart [vR M] g h P := by
  have hkn := hT.kn
  have hl9 : L ≤ 400 := by obtain ⟨p, h1, _, _⟩ := hT; exact h1.2.2.2.1
  refine Call_of rfl ⟨by decide +kernel, rfl⟩ (Nat.le_of_ble_eq_true rfl) rfl ?_
  refine aL0 dX12_readPart_0 ?_
  refine invV0 rfl dX12_readPart_1 kX12_134 hG.o (Nat.le_of_ble_eq_true rfl) (Nat.zero_le _) (Nat.zero_le _) (C_letters hG hT (fun h1 m1 hL1 => konV ?_))
  have hD1 := m1.la hD
  refine aL0 dX12_readPart_4 ?_
  refine R_getI dX12_readPart_5 fX12_109.r hG.o ?_
  refine topV (v := ((lsT b L (stT b L k) : Nat) : Int)) (hL1.1.1) ?_
  refine aL0 dX12_readPart_8 ?_
  refine R_getI dX12_readPart_9 fX12_119.r hG.o ?_
  refine topV (v := ((stT b L k : Nat) : Int)) (hL1.2.1) ?_
  refine R_icmp_ne dX12_readPart_12 (fun hb12 => ?_) (fun hb12 => ?_)
  · have hws := hL1.word (by omega)
    refine R_iconst_0 dX12_readPart_19 ?_
    refine iS1 dX12_readPart_20 ?_
    refine iL1 dX12_readPart_21 ?_
    refine R_if_eq dX12_readPart_22 (fun _ => ?_) (fun hb => absurd hb (by decide))
    refine aL0 dX12_readPart_36 ?_
    refine invV0 rfl dX12_readPart_37 kX12_205 hG.o (Nat.le_of_ble_eq_true rfl) (Nat.zero_le _) (Nat.zero_le _) (C_X12_wordOfPart hG hL1 (konI ?_))
    obtain ⟨v3, hv3⟩ : ∃ v3, (if 1000 ≤ thT b L k ∧ thT b L k ≤ 1006 then thT b L k - 1000 else -1) = v3 := ⟨_, rfl⟩
    refine topV (v := v3) hv3 ?_
    refine iS2 dX12_readPart_40 ?_
    refine aL0 dX12_readPart_41 ?_
    refine iL1 dX12_readPart_42 ?_
    refine R_if_eq dX12_readPart_43 (fun _ => ?_) (fun hb => absurd hb (by decide))
    refine iL2 dX12_readPart_51 ?_
    refine iL1 dX12_readPart_52 ?_
    refine R_if_eq dX12_readPart_53 (fun _ => ?_) (fun hb => absurd hb (by decide))
    refine R_iconst_0 dX12_readPart_60 ?_
    refine invV2 rfl dX12_readPart_61 kX12_208 hG.o (Nat.le_of_ble_eq_true rfl) (Nat.zero_le _) (Nat.zero_le _) (C_X12_emits hG hD1 hn (by omega) (fun h5 m5 E5 => konV ?_))
    refine iL2 dX12_readPart_64 ?_
    refine R_if_lt dX12_readPart_65 (fun hb65 => ?_) (fun hb65 => ?_)
    · have hw9 : ¬ (1000 ≤ thT b L k ∧ thT b L k ≤ 1006) := fun q9 => by rw [if_pos q9] at hv3; omega
      refine R_iconst_0 dX12_readPart_72 ?_
      exact R_zret dX12_readPart_73 rfl (by decide) (K _ _ (m1.y.tr m5.y) (by rw [m5 M 13 (by omega) (by omega), m1 M 13 (by omega)]) (Or.inr ⟨rfl, by omega, (m5 M 12 (by omega) (by omega)).trans hL1.2.1⟩))
    · have hw9 : 1000 ≤ thT b L k ∧ thT b L k ≤ 1006 := Decidable.byContradiction fun q9 => by rw [if_neg q9] at hv3; omega
      rw [if_pos hw9] at hv3
      refine R_iconst_1 dX12_readPart_68 ?_
      refine R_goto dX12_readPart_69 ?_
      exact R_zret dX12_readPart_73 rfl (by decide) (K _ _ (m1.y.tr m5.y) (by rw [m5 M 13 (by omega) (by omega), m1 M 13 (by omega)]) (Or.inl ⟨rfl, by omega, m5.st (hL1.st (by omega) (by omega)), E5 _ ((mcd_w (by omega)).trans (by omega)) (mnu_w (by omega))⟩))
  · have hsm : lsT b L (stT b L k) = stT b L k := by omega
    have hnw := (hL1.same hsm).2
    refine R_iconst_1 dX12_readPart_15 ?_
    refine R_goto dX12_readPart_16 ?_
    refine iS1 dX12_readPart_20 ?_
    refine iL1 dX12_readPart_21 ?_
    refine R_if_eq dX12_readPart_22 (fun hb => absurd hb (by decide)) (fun _ => ?_)
    refine aL0 dX12_readPart_25 ?_
    refine R_iconst_0 dX12_readPart_26 ?_
    refine R_sipush dX12_readPart_27 (by decide) ?_
    refine invV2 rfl dX12_readPart_30 kX12_141 hG.o (Nat.le_of_ble_eq_true rfl) (Nat.zero_le _) (Nat.zero_le _) (C_X12_number hG (hL1.same hsm).1 (lo := 0) (hi := 999) (by decide) (by decide) (fun h2 v2 m2 q2 => konI ?_))
    have hD2 := m2.la hD1
    refine R_goto dX12_readPart_33 ?_
    refine iS2 dX12_readPart_40 ?_
    refine aL0 dX12_readPart_41 ?_
    refine iL1 dX12_readPart_42 ?_
    refine R_if_eq dX12_readPart_43 (fun hb => absurd hb (by decide)) (fun _ => ?_)
    refine R_bipush dX12_readPart_46 (by decide) ?_
    refine R_goto dX12_readPart_48 ?_
    refine iL1 dX12_readPart_52 ?_
    refine R_if_eq dX12_readPart_53 (fun hb => absurd hb (by decide)) (fun _ => ?_)
    refine iL2 dX12_readPart_56 ?_
    refine R_goto dX12_readPart_57 ?_
    refine invV2 rfl dX12_readPart_61 kX12_208 hG.o (Nat.le_of_ble_eq_true rfl) (Nat.zero_le _) (Nat.zero_le _) (C_X12_emits hG hD2 hn (by omega) (fun h5 m5 E5 => konV ?_))
    refine iL2 dX12_readPart_64 ?_
    refine R_if_lt dX12_readPart_65 (fun hb65 => ?_) (fun hb65 => ?_)
    · refine R_iconst_0 dX12_readPart_72 ?_
      exact R_zret dX12_readPart_73 rfl (by decide) (K _ _ ((m1.y.tr m2.y).tr m5.y) (by rw [m5 M 13 (by omega) (by omega), m2 M 13 (by omega), m1 M 13 (by omega)]) (Or.inr ⟨rfl, by have := (q2.n (by omega) (by decide)).1; omega, (m5 M 12 (by omega) (by omega)).trans (q2.n (by omega) (by decide)).2⟩))
    · refine R_iconst_1 dX12_readPart_68 ?_
      refine R_goto dX12_readPart_69 ?_
      exact R_zret dX12_readPart_73 rfl (by decide) (K _ _ ((m1.y.tr m2.y).tr m5.y) (by rw [m5 M 13 (by omega) (by omega), m2 M 13 (by omega), m1 M 13 (by omega)]) (Or.inl ⟨rfl, by have := (q2.y (by omega)).1; omega, m5.st (q2.y (by omega)).2.2, E5 _ (mcd_n (by have := (q2.y (by omega)).1; omega)) (by rw [mnu_n (by have := (q2.y (by omega)).1; omega)]; exact (q2.y (by omega)).2.1.symm)⟩))
def aftS (t : Nat → Int) (m : Nat) (sg : Int) (u : Nat → Int) (c k : Nat) : Nat ⊕ LsT := if 0 ≤ sg then .inr (updW u c sg, c + 1, k) else if t k = 2060 ∨ t k = 2062 then cmqL t m (t k) false u c (k + 1) else .inl k
def cmq1 (t : Nat → Int) (m : Nat) (sg : Int) (u : Nat → Int) (c k : Nat) : Nat ⊕ LsT := if t k = 2043 then cmqL t m sg true u c (k + 1) else aftS t m sg u c k
theorem cmq_1 {t : Nat → Int} {m : Nat} {sg : Int} {pl : Bool} {u : Nat → Int} {c k : Nat} (h : 0 ≤ t k ∧ t k ≤ 1006) : cmqL t (m + 1) sg pl u c k = cmq1 t m sg (emU (updW u c (t k)) (c + 1) pl 2043) (emC (c + 1) pl) (k + 1) := cmqL_s.trans (if_pos h)
def SmM (M : Nat) (h : Hc) (b : Nat → Int) (L : Nat) (n : Nat) (u : Nat → Int) (c k : Nat) (v : Int) : Prop := (v = 1 ∧ ∃ u1 c1 k1, ¬ thT b L k1 = 2043 ∧ StM M h b L k1 ∧ LaM M h u1 n c1 ∧ k < k1 ∧ c1 + k ≤ c + k1 ∧ ∀ (m : Nat) (sg : Int), 401 ≤ m + k → ∃ m', 401 ≤ m' + k1 ∧ cmqL (thT b L) m sg false u c k = aftS (thT b L) m' sg u1 c1 k1) ∨ (v = 0 ∧ ∃ f, WrM M h b L f ∧ ∀ (m : Nat) (sg : Int), 401 ≤ m + k → cmqL (thT b L) m sg false u c k = .inl f)
theorem sm_0 {t u : Nat → Int} {c k : Nat} (hk : k ≤ 400) (h : 0 ≤ t k ∧ t k ≤ 1006) : ∀ (m : Nat) (sg : Int), 401 ≤ m + k → ∃ m', 401 ≤ m' + (k + 1) ∧ cmqL t m sg false u c k = cmq1 t m' sg (updW u c (t k)) (c + 1) (k + 1) := by
  intro m sg hm
  obtain ⟨m, rfl⟩ : ∃ m', m = m' + 1 := ⟨m - 1, by omega⟩
  exact ⟨m, by omega, cmq_1 h⟩
theorem sm_f {t u : Nat → Int} {c k : Nat} (hk : k ≤ 400) (h : ¬ (0 ≤ t k ∧ t k ≤ 1006)) : ∀ (m : Nat) (sg : Int), 401 ≤ m + k → cmqL t m sg false u c k = .inl k := by
  intro m sg hm
  obtain ⟨m, rfl⟩ : ∃ m', m = m' + 1 := ⟨m - 1, by omega⟩
  exact cmqL_n h
section
variable {t u ua : Nat → Int} {c k ca ka : Nat}
theorem sm_s (hk : ka + 1 ≤ 400) (hp : t ka = 2043) (h : 0 ≤ t (ka + 1) ∧ t (ka + 1) ≤ 1006) (H : ∀ (m : Nat) (sg : Int), 401 ≤ m + k → ∃ m', 401 ≤ m' + ka ∧ cmqL t m sg false u c k = cmq1 t m' sg ua ca ka) : ∀ (m : Nat) (sg : Int), 401 ≤ m + k → ∃ m', 401 ≤ m' + (ka + 1 + 1) ∧ cmqL t m sg false u c k = cmq1 t m' sg (updW (updW ua ca (t (ka + 1))) (ca + 1) 2043) (ca + 1 + 1) (ka + 1 + 1) := by
  intro m sg hm
  obtain ⟨m', h1, h2⟩ := H m sg hm
  obtain ⟨m2, rfl⟩ : ∃ m2, m' = m2 + 1 := ⟨m' - 1, by omega⟩
  exact ⟨m2, by omega, h2.trans ((if_pos hp).trans (cmq_1 h))⟩
theorem sm_sf (hk : ka ≤ 400) (hp : t ka = 2043) (h : ¬ (0 ≤ t (ka + 1) ∧ t (ka + 1) ≤ 1006)) (H : ∀ (m : Nat) (sg : Int), 401 ≤ m + k → ∃ m', 401 ≤ m' + ka ∧ cmqL t m sg false u c k = cmq1 t m' sg ua ca ka) : ∀ (m : Nat) (sg : Int), 401 ≤ m + k → cmqL t m sg false u c k = .inl (ka + 1) := by
  intro m sg hm
  obtain ⟨m', h1, h2⟩ := H m sg hm
  obtain ⟨m2, rfl⟩ : ∃ m2, m' = m2 + 1 := ⟨m' - 1, by omega⟩
  exact h2.trans ((if_pos hp).trans (cmqL_n h))
theorem sm_e (hp : ¬ t ka = 2043) (H : ∀ (m : Nat) (sg : Int), 401 ≤ m + k → ∃ m', 401 ≤ m' + ka ∧ cmqL t m sg false u c k = cmq1 t m' sg ua ca ka) : ∀ (m : Nat) (sg : Int), 401 ≤ m + k → ∃ m', 401 ≤ m' + ka ∧ cmqL t m sg false u c k = aftS t m' sg ua ca ka := by
  intro m sg hm
  obtain ⟨m', h1, h2⟩ := H m sg hm
  exact ⟨m', h1, h2.trans (if_neg hp)⟩
end
set_option maxHeartbeats 1000000 in
theorem C_X12_readSum {d : Nat} {g : Gs} {h : Hc} {P : Po} {M : Nat} (hG : MdG g M) {b : Nat → Int} {L : Nat} {k : Nat} (hT : StM M h b L k) {u : Nat → Int} {n c : Nat} (hD : LaM M h u n c) (hn : n ≤ 12) (hck : c + 3 ≤ k) (K : ∀ h' (v : Int), MvY M h h' → (v = 1 → h' M 13 = h M 13) → SmM M h' b L n u c k v → P (.inl (some (vI v))) g h') : Call (d + 7) 0 0 mX12_readSum [vR M] g h P := by
  have hkn := hT.kn
  refine Call_of rfl ⟨by decide +kernel, rfl⟩ (Nat.le_of_ble_eq_true rfl) rfl ?_
  refine aL0 dX12_readSum_0 ?_
  refine invV0 rfl dX12_readSum_1 kX12_212 hG.o (Nat.le_of_ble_eq_true rfl) (Nat.zero_le _) (Nat.zero_le _) (C_X12_readPart hG hT hD hn (by omega) (fun h1 v1 m1 d1 q1 => konI ?_))
  refine R_if_ne dX12_readSum_4 (fun hb4 => ?_) (fun hb4 => ?_)
  · rcases q1 with ⟨b1, c1, T1, D1⟩ | ⟨b1, c1, w1⟩
    rotate_left
    · exfalso; omega
    have kn1 := T1.kn
    refine loopN 400 (fun q => ∀ (hh : Hc) (ua : Nat → Int) (ca ka : Nat), MvY M h hh → hh M 13 = h M 13 → StM M hh b L ka → LaM M hh ua n ca → q ≤ ka → k < ka → ca + k ≤ c + ka → (∀ (m : Nat) (sg : Int), 401 ≤ m + k → ∃ m', 401 ≤ m' + ka ∧ cmqL (thT b L) m sg false u c k = cmq1 (thT b L) m' sg ua ca ka) → Run (d + 7) 0 0 mX12_readSum 9 [vR M] [] g hh P) (fun q hcq ihq hh ua ca ka hm hd9 hTa hDa i1 i2 i3 hR => ?_) 0 (Nat.zero_le _) h1 _ _ _ m1 d1 T1 D1 (Nat.zero_le _) (by omega) (by omega) (sm_0 hkn c1)
    have hka := hTa.kn
    refine aL0 dX12_readSum_9 ?_
    refine R_bipush dX12_readSum_10 (by decide) ?_
    refine invV1 rfl dX12_readSum_12 kX12_215 hG.o (Nat.le_of_ble_eq_true rfl) (Nat.zero_le _) (Nat.zero_le _) (C_X12_sign hG hTa (c := 43) (by decide) (fun h2 v2 m2 q2 => konI ?_))
    have D2 := m2.la hDa
    refine R_if_eq dX12_readSum_15 (fun hb15 => ?_) (fun hb15 => ?_)
    · rcases q2 with ⟨z2, ⟨c2, b2, T2⟩ | ⟨c2, b2, T2⟩⟩
      · exfalso; omega
      refine R_iconst_1 dX12_readSum_37 ?_
      exact R_zret dX12_readSum_38 rfl (by decide) (K _ _ (hm.tr m2.y) (fun _ => by rw [m2 M 13 (by omega)]; exact hd9) (Or.inl ⟨rfl, ua, ca, ka, by omega, T2, D2, i2, i3, sm_e (by omega) hR⟩))
    · rcases q2 with ⟨z2, ⟨c2, b2, T2⟩ | ⟨c2, b2, T2⟩⟩
      rotate_left
      · exfalso; omega
      refine aL0 dX12_readSum_18 ?_
      refine invV0 rfl dX12_readSum_19 kX12_212 hG.o (Nat.le_of_ble_eq_true rfl) (Nat.zero_le _) (Nat.zero_le _) (C_X12_readPart hG T2 D2 hn (by omega) (fun h3 v3 m3 d3 q3 => konI ?_))
      refine R_if_ne dX12_readSum_22 (fun hb22 => ?_) (fun hb22 => ?_)
      · rcases q3 with ⟨b3, c3, T3, D3⟩ | ⟨b3, c3, w3⟩
        rotate_left
        · exfalso; omega
        have kn3 := T3.kn
        refine aL0 dX12_readSum_27 ?_
        refine R_bipush dX12_readSum_28 (by decide) ?_
        refine R_iconst_0 dX12_readSum_30 ?_
        refine invV2 rfl dX12_readSum_31 kX12_208 hG.o (Nat.le_of_ble_eq_true rfl) (Nat.zero_le _) (Nat.zero_le _) (C_X12_emits hG D3 hn (by omega) (fun h4 m4 E4 => konV ?_))
        refine R_goto dX12_readSum_34 ?_
        exact ihq (by omega) _ _ _ _ (((hm.tr m2.y).tr m3).tr m4.y) (by rw [m4 M 13 (by omega) (by omega), d3, m2 M 13 (by omega)]; exact hd9) (m4.st T3) (E4 2043 (by decide) (by decide)) (by omega) (by omega) (by omega) (sm_s (by omega) (by omega) c3 hR)
      · rcases q3 with ⟨b3, c3, T3, D3⟩ | ⟨b3, c3, w3⟩
        · exfalso; omega
        refine R_iconst_0 dX12_readSum_25 ?_
        exact R_zret dX12_readSum_26 rfl (by decide) (K _ _ ((hm.tr m2.y).tr m3) (fun q9 => absurd q9 (by decide)) (Or.inr ⟨rfl, _, w3, sm_sf hka (by omega) c3 hR⟩))
  · rcases q1 with ⟨b1, c1, T1, D1⟩ | ⟨b1, c1, w1⟩
    · exfalso; omega
    refine R_iconst_0 dX12_readSum_7 ?_
    exact R_zret dX12_readSum_8 rfl (by decide) (K _ _ m1 (fun _ => d1) (Or.inr ⟨rfl, k, w1, sm_f hkn c1⟩))
def TgM (M : Nat) (h : Hc) (b : Nat → Int) (L : Nat) (u : Nat → Int) (n c k : Nat) (v : Int) : Prop := (v = 1 ∧ (1007 ≤ thT b L k ∧ thT b L k ≤ 1009) ∧ StM M h b L (k + 1) ∧ LaM M h (updW u c (thT b L k)) n (c + 1)) ∨ (v = 0 ∧ ¬ (1007 ≤ thT b L k ∧ thT b L k ≤ 1009) ∧ StM M h b L k ∧ LaM M h u n c)
set_option maxHeartbeats 400000 in
theorem C_X12_readTag {d : Nat} {g : Gs} {h : Hc} {P : Po} {M : Nat} (hG : MdG g M) {b : Nat → Int} {L : Nat} {k : Nat} (hT : StM M h b L k) {u : Nat → Int} {n c : Nat} (hD : LaM M h u n c) (hn : n ≤ 12) (hck : c + 3 ≤ k) (K : ∀ h' (v : Int), MvY M h h' → h' M 13 = h M 13 → TgM M h' b L u n c k v → P (.inl (some (vI v))) g h') : Call (d + 5) 0 0 mX12_readTag [vR M] g h P := by
  have hkn := hT.kn
  have hstl := stT_le (b := b) (L := L) k
  refine Call_of rfl ⟨by decide +kernel, rfl⟩ (Nat.le_of_ble_eq_true rfl) rfl ?_
  refine aL0 dX12_readTag_0 ?_
  refine invV0 rfl dX12_readTag_1 kX12_134 hG.o (Nat.le_of_ble_eq_true rfl) (Nat.zero_le _) (Nat.zero_le _) (C_letters hG hT (fun h1 m1 hL1 => konV ?_))
  have hD1 := m1.la hD
  refine aL0 dX12_readTag_4 ?_
  refine R_ldcS (i := 15) dX12_readTag_5 rfl ?_
  refine invV1 rfl dX12_readTag_7 kX12_137 hG.o (Nat.le_of_ble_eq_true rfl) (Nat.zero_le _) (Nat.zero_le _) (C_isWord hG hL1 15 7 (by decide) (by decide) sw_15 (konI ?_))
  refine R_ifB_eq dX12_readTag_10 (fun hb10 => ?_) (fun hb10 => ?_)
  · have c0 : ¬ thT b L k = 1007 := by have := of_decide_eq_false hb10; omega
    refine aL0 dX12_readTag_18 ?_
    refine R_ldcS (i := 16) dX12_readTag_19 rfl ?_
    refine invV1 rfl dX12_readTag_21 kX12_137 hG.o (Nat.le_of_ble_eq_true rfl) (Nat.zero_le _) (Nat.zero_le _) (C_isWord hG hL1 16 8 (by decide) (by decide) sw_16 (konI ?_))
    refine R_ifB_eq dX12_readTag_24 (fun hb24 => ?_) (fun hb24 => ?_)
    · have c1 : ¬ thT b L k = 1008 := by have := of_decide_eq_false hb24; omega
      refine aL0 dX12_readTag_32 ?_
      refine R_ldcS (i := 17) dX12_readTag_33 rfl ?_
      refine invV1 rfl dX12_readTag_35 kX12_137 hG.o (Nat.le_of_ble_eq_true rfl) (Nat.zero_le _) (Nat.zero_le _) (C_isWord hG hL1 17 9 (by decide) (by decide) sw_17 (konI ?_))
      refine R_ifB_eq dX12_readTag_38 (fun hb38 => ?_) (fun hb38 => ?_)
      · have c2 : ¬ thT b L k = 1009 := by have := of_decide_eq_false hb38; omega
        refine R_iconst_m1 dX12_readTag_46 ?_
        refine iS1 dX12_readTag_47 ?_
        refine iL1 dX12_readTag_48 ?_
        refine R_if_lt dX12_readTag_49 (fun _ => ?_) (fun hb => absurd hb (by decide))
        refine aL0 dX12_readTag_61 ?_
        refine aL0 dX12_readTag_62 ?_
        refine R_getI dX12_readTag_63 fX12_119.r hG.o ?_
        refine topV (v := ((stT b L k : Nat) : Int)) (hL1.2.1) ?_
        refine R_putI dX12_readTag_66 fX12_109 hG.o ?_
        refine iL1 dX12_readTag_69 ?_
        refine R_if_lt dX12_readTag_70 (fun _ => ?_) (fun hb => absurd hb (by decide))
        refine R_iconst_0 dX12_readTag_77 ?_
        exact R_zret dX12_readTag_78 rfl (by decide) (K _ _ (m1.up (Or.inl rfl)).y (by rw [updH_i (by decide)]; exact m1 M 13 (by omega)) (Or.inr ⟨rfl, by omega, hL1.bk.st, hD1.o (updH_i (by decide)) (updH_a (by omega))⟩))
      · have c2 : thT b L k = 1009 := by have := of_decide_eq_true hb38; omega
        refine R_bipush dX12_readTag_41 (by decide) ?_
        refine R_goto dX12_readTag_43 ?_
        refine iS1 dX12_readTag_47 ?_
        refine iL1 dX12_readTag_48 ?_
        refine R_if_lt dX12_readTag_49 (fun hb => absurd hb (by decide)) (fun _ => ?_)
        refine aL0 dX12_readTag_52 ?_
        refine iL1 dX12_readTag_53 ?_
        refine R_iconst_0 dX12_readTag_54 ?_
        refine invV2 rfl dX12_readTag_55 kX12_208 hG.o (Nat.le_of_ble_eq_true rfl) (Nat.zero_le _) (Nat.zero_le _) (C_X12_emits hG hD1 hn (by omega) (fun h2 m2 E2 => konV ?_))
        refine R_goto dX12_readTag_58 ?_
        refine iL1 dX12_readTag_69 ?_
        refine R_if_lt dX12_readTag_70 (fun hb => absurd hb (by decide)) (fun _ => ?_)
        refine R_iconst_1 dX12_readTag_73 ?_
        refine R_goto dX12_readTag_74 ?_
        exact R_zret dX12_readTag_78 rfl (by decide) (K _ _ (m1.y.tr m2.y) (by rw [m2 M 13 (by omega) (by omega), m1 M 13 (by omega)]) (Or.inl ⟨rfl, by omega, m2.st (hL1.st (by omega) (by omega)), E2 _ ((mcd_w (by omega)).trans (by omega)) (mnu_w (by omega))⟩))
    · have c1 : thT b L k = 1008 := by have := of_decide_eq_true hb24; omega
      refine R_bipush dX12_readTag_27 (by decide) ?_
      refine R_goto dX12_readTag_29 ?_
      refine iS1 dX12_readTag_47 ?_
      refine iL1 dX12_readTag_48 ?_
      refine R_if_lt dX12_readTag_49 (fun hb => absurd hb (by decide)) (fun _ => ?_)
      refine aL0 dX12_readTag_52 ?_
      refine iL1 dX12_readTag_53 ?_
      refine R_iconst_0 dX12_readTag_54 ?_
      refine invV2 rfl dX12_readTag_55 kX12_208 hG.o (Nat.le_of_ble_eq_true rfl) (Nat.zero_le _) (Nat.zero_le _) (C_X12_emits hG hD1 hn (by omega) (fun h3 m3 E3 => konV ?_))
      refine R_goto dX12_readTag_58 ?_
      refine iL1 dX12_readTag_69 ?_
      refine R_if_lt dX12_readTag_70 (fun hb => absurd hb (by decide)) (fun _ => ?_)
      refine R_iconst_1 dX12_readTag_73 ?_
      refine R_goto dX12_readTag_74 ?_
      exact R_zret dX12_readTag_78 rfl (by decide) (K _ _ (m1.y.tr m3.y) (by rw [m3 M 13 (by omega) (by omega), m1 M 13 (by omega)]) (Or.inl ⟨rfl, by omega, m3.st (hL1.st (by omega) (by omega)), E3 _ ((mcd_w (by omega)).trans (by omega)) (mnu_w (by omega))⟩))
  · have c0 : thT b L k = 1007 := by have := of_decide_eq_true hb10; omega
    refine R_bipush dX12_readTag_13 (by decide) ?_
    refine R_goto dX12_readTag_15 ?_
    refine iS1 dX12_readTag_47 ?_
    refine iL1 dX12_readTag_48 ?_
    refine R_if_lt dX12_readTag_49 (fun hb => absurd hb (by decide)) (fun _ => ?_)
    refine aL0 dX12_readTag_52 ?_
    refine iL1 dX12_readTag_53 ?_
    refine R_iconst_0 dX12_readTag_54 ?_
    refine invV2 rfl dX12_readTag_55 kX12_208 hG.o (Nat.le_of_ble_eq_true rfl) (Nat.zero_le _) (Nat.zero_le _) (C_X12_emits hG hD1 hn (by omega) (fun h4 m4 E4 => konV ?_))
    refine R_goto dX12_readTag_58 ?_
    refine iL1 dX12_readTag_69 ?_
    refine R_if_lt dX12_readTag_70 (fun hb => absurd hb (by decide)) (fun _ => ?_)
    refine R_iconst_1 dX12_readTag_73 ?_
    refine R_goto dX12_readTag_74 ?_
    exact R_zret dX12_readTag_78 rfl (by decide) (K _ _ (m1.y.tr m4.y) (by rw [m4 M 13 (by omega) (by omega), m1 M 13 (by omega)]) (Or.inl ⟨rfl, by omega, m4.st (hL1.st (by omega) (by omega)), E4 _ ((mcd_w (by omega)).trans (by omega)) (mnu_w (by omega))⟩))
def AoM (M : Nat) (h : Hc) (b : Nat → Int) (L n : Nat) (dp : Int) (v : Int) (R : Nat ⊕ LsT) : Prop := (v = 1 ∧ ∃ u1 c1 k1, R = .inr (u1, c1, k1) ∧ StM M h b L k1 ∧ LaM M h u1 n c1 ∧ h M 13 = dp) ∨ (v = 0 ∧ ∃ f, R = .inl f ∧ WrM M h b L f)
def AtM (M : Nat) (b : Nat → Int) (L r : Nat) : Prop := ∀ {d : Nat} {g : Gs} {h : Hc} {P : Po} {k : Nat} {u : Nat → Int} {n c dp : Nat}, MdG g M → StM M h b L k → LaM M h u n c → n ≤ 12 → c + 3 ≤ k → h M 13 = (dp : Int) → dp + r = 6 → 3 * r + 8 ≤ d → (∀ h' (v : Int), MvY M h h' → AoM M h' b L n (dp : Int) v (atmL (thT b L) r u c k) → P (.inl (some (vI v))) g h') → Call d 0 0 mX12_readAtom [vR M] g h P
def CnM (M : Nat) (b : Nat → Int) (L r : Nat) : Prop := ∀ {d : Nat} {g : Gs} {h : Hc} {P : Po} {k : Nat} {u : Nat → Int} {n c dp : Nat}, MdG g M → StM M h b L k → LaM M h u n c → n ≤ 12 → c + 3 ≤ k → h M 13 = (dp : Int) → dp + r = 6 → 3 * r + 10 ≤ d → (∀ h' (v : Int), MvY M h h' → AoM M h' b L n (dp : Int) v (cndL (thT b L) (atmL (thT b L) r) 400 false false u c k) → P (.inl (some (vI v))) g h') → Call d 0 0 mX12_readCond [vR M] g h P
theorem aftS_p {t : Nat → Int} {m : Nat} {sg : Int} {u : Nat → Int} {c k : Nat} (h : 0 ≤ sg) : aftS t m sg u c k = .inr (updW u c sg, c + 1, k) := if_pos h
theorem aftS_g {t : Nat → Int} {m : Nat} {sg : Int} {u : Nat → Int} {c k : Nat} (h : ¬ 0 ≤ sg) (h2 : t k = 2060 ∨ t k = 2062) : aftS t m sg u c k = cmqL t m (t k) false u c (k + 1) := (if_neg h).trans (if_pos h2)
theorem aftS_w {t : Nat → Int} {m : Nat} {sg : Int} {u : Nat → Int} {c k : Nat} (h : ¬ 0 ≤ sg) (h2 : ¬ (t k = 2060 ∨ t k = 2062)) : aftS t m sg u c k = .inl k := (if_neg h).trans (if_neg h2)
section
variable {t u u1 u2 : Nat → Int} {k c c1 k1 c2 k2 f : Nat}
theorem cq_y (hk : 1 ≤ k) (hs : t k1 = 2060 ∨ t k1 = 2062) (H1 : ∀ (m : Nat) (sg : Int), 401 ≤ m + k → ∃ m', 401 ≤ m' + k1 ∧ cmqL t m sg false u c k = aftS t m' sg u1 c1 k1) (H2 : ∀ (m : Nat) (sg : Int), 401 ≤ m + (k1 + 1) → ∃ m', 401 ≤ m' + k2 ∧ cmqL t m sg false u1 c1 (k1 + 1) = aftS t m' sg u2 c2 k2) : cmqL t 400 (-1) false u c k = .inr (updW u2 c2 (t k1), c2 + 1, k2) := by
  obtain ⟨m', h1, h2⟩ := H1 400 (-1) (by omega)
  obtain ⟨m2, h3, h4⟩ := H2 m' (t k1) (by omega)
  exact h2.trans ((aftS_g (by decide) hs).trans (h4.trans (aftS_p (by omega))))
theorem cq_f (hk : 1 ≤ k) (hs : t k1 = 2060 ∨ t k1 = 2062) (H1 : ∀ (m : Nat) (sg : Int), 401 ≤ m + k → ∃ m', 401 ≤ m' + k1 ∧ cmqL t m sg false u c k = aftS t m' sg u1 c1 k1) (H2 : ∀ (m : Nat) (sg : Int), 401 ≤ m + (k1 + 1) → cmqL t m sg false u1 c1 (k1 + 1) = .inl f) : cmqL t 400 (-1) false u c k = .inl f := by
  obtain ⟨m', h1, h2⟩ := H1 400 (-1) (by omega)
  exact h2.trans ((aftS_g (by decide) hs).trans (H2 m' (t k1) (by omega)))
theorem cq_n (hk : 1 ≤ k) (hs : ¬ (t k1 = 2060 ∨ t k1 = 2062)) (H1 : ∀ (m : Nat) (sg : Int), 401 ≤ m + k → ∃ m', 401 ≤ m' + k1 ∧ cmqL t m sg false u c k = aftS t m' sg u1 c1 k1) : cmqL t 400 (-1) false u c k = .inl k1 := by
  obtain ⟨m', h1, h2⟩ := H1 400 (-1) (by omega)
  exact h2.trans (aftS_w (by decide) hs)
end
theorem op_end {M : Nat} {h : Hc} {b : Nat → Int} {L n : Nat} {dp v : Int} {r k : Nat} {u u1 : Nat → Int} {c c1 k1 : Nat} (ho : thT b L k = 2040) (e : cndL (thT b L) (atmL (thT b L) r) 400 false false u c (k + 1) = .inr (u1, c1, k1)) (q : PsM M h b L k1 2041 v) (hD : LaM M h u1 n c1) (hp : h M 13 = dp) : AoM M h b L n dp v (atmL (thT b L) (r + 1) u c k) := by
  obtain ⟨z, ⟨a1, a2, a3⟩ | ⟨a1, a2, a3⟩⟩ := q
  · exact Or.inl ⟨a2, u1, c1, k1 + 1, atmL_oy ho e a1, a3, hD, hp⟩
  · exact Or.inr ⟨a2, k1, atmL_on ho e a1, z⟩
set_option maxHeartbeats 1000000 in
theorem C_X12_readAtom_z {d : Nat} {g : Gs} {h : Hc} {P : Po} {M : Nat} (hG : MdG g M) {b : Nat → Int} {L : Nat} {k : Nat} (hT : StM M h b L k) {u : Nat → Int} {n c : Nat} (hD : LaM M h u n c) (hn : n ≤ 12) (hck : c + 3 ≤ k) {dp : Nat} (hp : h M 13 = (dp : Int)) (hdp : dp = 6) (K : ∀ h' (v : Int), MvY M h h' → AoM M h' b L n (dp : Int) v (atmL (thT b L) 0 u c k) → P (.inl (some (vI v))) g h') : Call (d + 8) 0 0 mX12_readAtom [vR M] g h P := by
  have hkn := hT.kn
  refine Call_of rfl ⟨by decide +kernel, rfl⟩ (Nat.le_of_ble_eq_true rfl) rfl ?_
  refine aL0 dX12_readAtom_0 ?_
  refine R_bipush dX12_readAtom_1 (by decide) ?_
  refine invV1 rfl dX12_readAtom_3 kX12_215 hG.o (Nat.le_of_ble_eq_true rfl) (Nat.zero_le _) (Nat.zero_le _) (C_X12_sign hG hT (c := 40) (by decide) (fun h1 v1 m1 q1 => konI ?_))
  have D1 := m1.la hD
  have p1 : h1 M 13 = (dp : Int) := (m1 M 13 (by omega)).trans hp
  refine R_if_eq dX12_readAtom_6 (fun hb6 => ?_) (fun hb6 => ?_)
  · rcases q1 with ⟨z1, ⟨c1, b1, T1⟩ | ⟨c1, b1, T1⟩⟩
    · exfalso; omega
    refine aL0 dX12_readAtom_56 ?_
    refine R_ldcS (i := 18) dX12_readAtom_57 rfl ?_
    refine invV1 rfl dX12_readAtom_59 kX12_144 hG.o (Nat.le_of_ble_eq_true rfl) (Nat.zero_le _) (Nat.zero_le _) (C_X12_passes hG T1 18 23 (by decide) (by decide) sw_18 (fun h2 v2 m2 q2 => konI ?_))
    have D2 := m2.la D1
    have p2 : h2 M 13 = (dp : Int) := (m2 M 13 (by omega)).trans p1
    refine R_if_eq dX12_readAtom_62 (fun hb62 => ?_) (fun hb62 => ?_)
    · rcases q2 with ⟨z2, ⟨c2, b2, T2⟩ | ⟨c2, b2, T2⟩⟩
      · exfalso; omega
      have g1 : ¬ thT b L k = 1023 := by omega
      have g2 : ¬ thT b L k = 2040 := by omega
      refine aL0 dX12_readAtom_114 ?_
      refine invV0 rfl dX12_readAtom_115 kX12_236 hG.o (Nat.le_of_ble_eq_true rfl) (Nat.zero_le _) (Nat.zero_le _) (C_X12_readTag hG T2 D2 hn (by omega) (fun h3 v3 m3 d3 q3 => konI ?_))
      have p3 : h3 M 13 = (dp : Int) := d3.trans p2
      refine R_if_eq dX12_readAtom_118 (fun hb118 => ?_) (fun hb118 => ?_)
      · rcases q3 with ⟨b3, c3, T3, D3⟩ | ⟨b3, c3, T3, D3⟩
        · exfalso; omega
        refine aL0 dX12_readAtom_123 ?_
        refine invV0 rfl dX12_readAtom_124 kX12_239 hG.o (Nat.le_of_ble_eq_true rfl) (Nat.zero_le _) (Nat.zero_le _) (C_X12_readSum hG T3 D3 hn (by omega) (fun h4 v4 m4 d4 q4 => konI ?_))
        refine R_if_ne dX12_readAtom_127 (fun hb127 => ?_) (fun hb127 => ?_)
        · rcases q4 with ⟨b4, u4, c4, k4, x4, T4, D4, la4, lb4, H4⟩ | ⟨b4, f4, w4, H4⟩
          rotate_left
          · exfalso; omega
          have kn4 := T4.kn
          have p4 := (d4 b4).trans p3
          refine aL0 dX12_readAtom_132 ?_
          refine R_bipush dX12_readAtom_133 (by decide) ?_
          refine invV1 rfl dX12_readAtom_135 kX12_215 hG.o (Nat.le_of_ble_eq_true rfl) (Nat.zero_le _) (Nat.zero_le _) (C_X12_sign hG T4 (c := 60) (by decide) (fun h5 v5 m5 q5 => konI ?_))
          have D5 := m5.la D4
          have p5 : h5 M 13 = (dp : Int) := (m5 M 13 (by omega)).trans p4
          refine iS1 dX12_readAtom_138 ?_
          refine iL1 dX12_readAtom_139 ?_
          refine R_if_ne dX12_readAtom_140 (fun hb140 => ?_) (fun hb140 => ?_)
          · rcases q5 with ⟨z5, ⟨c5, b5, T5⟩ | ⟨c5, b5, T5⟩⟩
            rotate_left
            · exfalso; omega
            refine eqI1 (v := 1) b5 ?_
            refine aL0 dX12_readAtom_152 ?_
            refine invV0 rfl dX12_readAtom_153 kX12_239 hG.o (Nat.le_of_ble_eq_true rfl) (Nat.zero_le _) (Nat.zero_le _) (C_X12_readSum hG T5 D5 hn (by omega) (fun h6 v6 m6 d6 q6 => konI ?_))
            refine R_if_ne dX12_readAtom_156 (fun hb156 => ?_) (fun hb156 => ?_)
            · rcases q6 with ⟨b6, u6, c6, k6, x6, T6, D6, la6, lb6, H6⟩ | ⟨b6, f6, w6, H6⟩
              rotate_left
              · exfalso; omega
              have kn6 := T6.kn
              have p6 := (d6 b6).trans p5
              refine aL0 dX12_readAtom_161 ?_
              refine iL1 dX12_readAtom_162 ?_
              refine R_if_eq dX12_readAtom_163 (fun hb => absurd hb (by decide)) (fun _ => ?_)
              refine R_bipush dX12_readAtom_166 (by decide) ?_
              refine R_goto dX12_readAtom_168 ?_
              refine R_iconst_0 dX12_readAtom_173 ?_
              refine invV2 rfl dX12_readAtom_174 kX12_208 hG.o (Nat.le_of_ble_eq_true rfl) (Nat.zero_le _) (Nat.zero_le _) (C_X12_emits hG D6 hn (by omega) (fun h7 m7 E7 => konV ?_))
              have p7 : h7 M 13 = (dp : Int) := (m7 M 13 (by omega) (by omega)).trans p6
              refine R_iconst_1 dX12_readAtom_177 ?_
              exact R_zret dX12_readAtom_178 rfl (by decide) (K _ _ ((((((m1.y.tr m2.y).tr m3).tr m4).tr m5.y).tr m6).tr m7.y) (Or.inl ⟨rfl, _, _, _, (atmL_0 g1 g2 _).trans ((atm0_c (by omega)).trans (cq_y (by omega) (by omega) H4 H6)), m7.st T6, E7 (thT b L k4) (by unfold mcd; rw [if_neg (by omega), if_neg (by omega), if_neg (by omega)]; rw [if_pos (by omega)]) (mnu_w (by omega)), p7⟩))
            · rcases q6 with ⟨b6, u6, c6, k6, x6, T6, D6, la6, lb6, H6⟩ | ⟨b6, f6, w6, H6⟩
              · exfalso; omega
              refine R_iconst_0 dX12_readAtom_159 ?_
              exact R_zret dX12_readAtom_160 rfl (by decide) (K _ _ (((((m1.y.tr m2.y).tr m3).tr m4).tr m5.y).tr m6) (Or.inr ⟨rfl, _, (atmL_0 g1 g2 _).trans ((atm0_c (by omega)).trans (cq_f (by omega) (by omega) H4 H6)), w6⟩))
          · rcases q5 with ⟨z5, ⟨c5, b5, T5⟩ | ⟨c5, b5, T5⟩⟩
            · exfalso; omega
            refine eqI1 (v := 0) b5 ?_
            refine aL0 dX12_readAtom_143 ?_
            refine R_bipush dX12_readAtom_144 (by decide) ?_
            refine invV1 rfl dX12_readAtom_146 kX12_215 hG.o (Nat.le_of_ble_eq_true rfl) (Nat.zero_le _) (Nat.zero_le _) (C_X12_sign hG T5 (c := 62) (by decide) (fun h8 v8 m8 q8 => konI ?_))
            have D8 := m8.la D5
            have p8 : h8 M 13 = (dp : Int) := (m8 M 13 (by omega)).trans p5
            refine R_if_eq dX12_readAtom_149 (fun hb149 => ?_) (fun hb149 => ?_)
            · rcases q8 with ⟨z8, ⟨c8, b8, T8⟩ | ⟨c8, b8, T8⟩⟩
              · exfalso; omega
              refine R_iconst_0 dX12_readAtom_159 ?_
              exact R_zret dX12_readAtom_160 rfl (by decide) (K _ _ (((((m1.y.tr m2.y).tr m3).tr m4).tr m5.y).tr m8.y) (Or.inr ⟨rfl, _, (atmL_0 g1 g2 _).trans ((atm0_c (by omega)).trans (cq_n (by omega) (by omega) H4)), z8⟩))
            · rcases q8 with ⟨z8, ⟨c8, b8, T8⟩ | ⟨c8, b8, T8⟩⟩
              rotate_left
              · exfalso; omega
              refine aL0 dX12_readAtom_152 ?_
              refine invV0 rfl dX12_readAtom_153 kX12_239 hG.o (Nat.le_of_ble_eq_true rfl) (Nat.zero_le _) (Nat.zero_le _) (C_X12_readSum hG T8 D8 hn (by omega) (fun h9 v9 m9 d9 q9 => konI ?_))
              refine R_if_ne dX12_readAtom_156 (fun hb156 => ?_) (fun hb156 => ?_)
              · rcases q9 with ⟨b9, u9, c9, k9, x9, T9, D9, la9, lb9, H9⟩ | ⟨b9, f9, w9, H9⟩
                rotate_left
                · exfalso; omega
                have kn9 := T9.kn
                have p9 := (d9 b9).trans p8
                refine aL0 dX12_readAtom_161 ?_
                refine iL1 dX12_readAtom_162 ?_
                refine R_if_eq dX12_readAtom_163 (fun _ => ?_) (fun hb => absurd hb (by decide))
                refine R_bipush dX12_readAtom_171 (by decide) ?_
                refine R_iconst_0 dX12_readAtom_173 ?_
                refine invV2 rfl dX12_readAtom_174 kX12_208 hG.o (Nat.le_of_ble_eq_true rfl) (Nat.zero_le _) (Nat.zero_le _) (C_X12_emits hG D9 hn (by omega) (fun h10 m10 E10 => konV ?_))
                have p10 : h10 M 13 = (dp : Int) := (m10 M 13 (by omega) (by omega)).trans p9
                refine R_iconst_1 dX12_readAtom_177 ?_
                exact R_zret dX12_readAtom_178 rfl (by decide) (K _ _ (((((((m1.y.tr m2.y).tr m3).tr m4).tr m5.y).tr m8.y).tr m9).tr m10.y) (Or.inl ⟨rfl, _, _, _, (atmL_0 g1 g2 _).trans ((atm0_c (by omega)).trans (cq_y (by omega) (by omega) H4 H9)), m10.st T9, E10 (thT b L k4) (by unfold mcd; rw [if_neg (by omega), if_neg (by omega), if_neg (by omega)]; rw [if_neg (by omega), if_pos (by omega)]) (mnu_w (by omega)), p10⟩))
              · rcases q9 with ⟨b9, u9, c9, k9, x9, T9, D9, la9, lb9, H9⟩ | ⟨b9, f9, w9, H9⟩
                · exfalso; omega
                refine R_iconst_0 dX12_readAtom_159 ?_
                exact R_zret dX12_readAtom_160 rfl (by decide) (K _ _ ((((((m1.y.tr m2.y).tr m3).tr m4).tr m5.y).tr m8.y).tr m9) (Or.inr ⟨rfl, _, (atmL_0 g1 g2 _).trans ((atm0_c (by omega)).trans (cq_f (by omega) (by omega) H4 H9)), w9⟩))
        · rcases q4 with ⟨b4, u4, c4, k4, x4, T4, D4, la4, lb4, H4⟩ | ⟨b4, f4, w4, H4⟩
          · exfalso; omega
          refine R_iconst_0 dX12_readAtom_130 ?_
          exact R_zret dX12_readAtom_131 rfl (by decide) (K _ _ (((m1.y.tr m2.y).tr m3).tr m4) (Or.inr ⟨rfl, _, (atmL_0 g1 g2 _).trans ((atm0_c (by omega)).trans (H4 400 (-1) (by omega))), w4⟩))
      · rcases q3 with ⟨b3, c3, T3, D3⟩ | ⟨b3, c3, T3, D3⟩
        rotate_left
        · exfalso; omega
        refine R_iconst_1 dX12_readAtom_121 ?_
        exact R_zret dX12_readAtom_122 rfl (by decide) (K _ _ ((m1.y.tr m2.y).tr m3) (Or.inl ⟨rfl, _, _, _, (atmL_0 g1 g2 _).trans (atm0_t c3), T3, D3, p3⟩))
    · rcases q2 with ⟨z2, ⟨c2, b2, T2⟩ | ⟨c2, b2, T2⟩⟩
      rotate_left
      · exfalso; omega
      have kq2 := T2.kn
      refine aL0 dX12_readAtom_65 ?_
      refine R_getI dX12_readAtom_66 fX12_225.r hG.o ?_
      refine topV (v := ((dp : Nat) : Int)) (p2) ?_
      refine R_bipush dX12_readAtom_69 (by decide) ?_
      refine R_icmp_ne dX12_readAtom_71 (fun hb71 => ?_) (fun hb71 => ?_)
      · exfalso; omega
      · refine R_iconst_0 dX12_readAtom_74 ?_
        exact R_zret dX12_readAtom_75 rfl (by decide) (K _ _ (m1.y.tr m2.y) (Or.inr ⟨rfl, k, atmL_z (Or.inl (by omega)), z2⟩))
  · rcases q1 with ⟨z1, ⟨c1, b1, T1⟩ | ⟨c1, b1, T1⟩⟩
    rotate_left
    · exfalso; omega
    have kq1 := T1.kn
    refine aL0 dX12_readAtom_9 ?_
    refine R_getI dX12_readAtom_10 fX12_225.r hG.o ?_
    refine topV (v := ((dp : Nat) : Int)) (p1) ?_
    refine R_bipush dX12_readAtom_13 (by decide) ?_
    refine R_icmp_ne dX12_readAtom_15 (fun hb15 => ?_) (fun hb15 => ?_)
    · exfalso; omega
    · refine R_iconst_0 dX12_readAtom_18 ?_
      exact R_zret dX12_readAtom_19 rfl (by decide) (K _ _ m1.y (Or.inr ⟨rfl, k, atmL_z (Or.inr (by omega)), z1⟩))
set_option maxHeartbeats 1000000 in
theorem C_X12_readAtom_s {d : Nat} {g : Gs} {h : Hc} {P : Po} {M : Nat} (hG : MdG g M) {b : Nat → Int} {L : Nat} {k : Nat} (hT : StM M h b L k) {u : Nat → Int} {n c : Nat} (hD : LaM M h u n c) (hn : n ≤ 12) (hck : c + 3 ≤ k) {r dp : Nat} (hA : AtM M b L r) (hC : CnM M b L r) (hp : h M 13 = (dp : Int)) (hdp : dp + (r + 1) = 6) (hd : 3 * (r + 1) + 8 ≤ d + 8) (K : ∀ h' (v : Int), MvY M h h' → AoM M h' b L n (dp : Int) v (atmL (thT b L) (r + 1) u c k) → P (.inl (some (vI v))) g h') : Call (d + 8) 0 0 mX12_readAtom [vR M] g h P := by
  have hkn := hT.kn
  refine Call_of rfl ⟨by decide +kernel, rfl⟩ (Nat.le_of_ble_eq_true rfl) rfl ?_
  refine aL0 dX12_readAtom_0 ?_
  refine R_bipush dX12_readAtom_1 (by decide) ?_
  refine invV1 rfl dX12_readAtom_3 kX12_215 hG.o (Nat.le_of_ble_eq_true rfl) (Nat.zero_le _) (Nat.zero_le _) (C_X12_sign hG hT (c := 40) (by decide) (fun h1 v1 m1 q1 => konI ?_))
  have D1 := m1.la hD
  have p1 : h1 M 13 = (dp : Int) := (m1 M 13 (by omega)).trans hp
  refine R_if_eq dX12_readAtom_6 (fun hb6 => ?_) (fun hb6 => ?_)
  · rcases q1 with ⟨z1, ⟨c1, b1, T1⟩ | ⟨c1, b1, T1⟩⟩
    · exfalso; omega
    refine aL0 dX12_readAtom_56 ?_
    refine R_ldcS (i := 18) dX12_readAtom_57 rfl ?_
    refine invV1 rfl dX12_readAtom_59 kX12_144 hG.o (Nat.le_of_ble_eq_true rfl) (Nat.zero_le _) (Nat.zero_le _) (C_X12_passes hG T1 18 23 (by decide) (by decide) sw_18 (fun h2 v2 m2 q2 => konI ?_))
    have D2 := m2.la D1
    have p2 : h2 M 13 = (dp : Int) := (m2 M 13 (by omega)).trans p1
    refine R_if_eq dX12_readAtom_62 (fun hb62 => ?_) (fun hb62 => ?_)
    · rcases q2 with ⟨z2, ⟨c2, b2, T2⟩ | ⟨c2, b2, T2⟩⟩
      · exfalso; omega
      have g1 : ¬ thT b L k = 1023 := by omega
      have g2 : ¬ thT b L k = 2040 := by omega
      refine aL0 dX12_readAtom_114 ?_
      refine invV0 rfl dX12_readAtom_115 kX12_236 hG.o (Nat.le_of_ble_eq_true rfl) (Nat.zero_le _) (Nat.zero_le _) (C_X12_readTag hG T2 D2 hn (by omega) (fun h3 v3 m3 d3 q3 => konI ?_))
      have p3 : h3 M 13 = (dp : Int) := d3.trans p2
      refine R_if_eq dX12_readAtom_118 (fun hb118 => ?_) (fun hb118 => ?_)
      · rcases q3 with ⟨b3, c3, T3, D3⟩ | ⟨b3, c3, T3, D3⟩
        · exfalso; omega
        refine aL0 dX12_readAtom_123 ?_
        refine invV0 rfl dX12_readAtom_124 kX12_239 hG.o (Nat.le_of_ble_eq_true rfl) (Nat.zero_le _) (Nat.zero_le _) (C_X12_readSum hG T3 D3 hn (by omega) (fun h4 v4 m4 d4 q4 => konI ?_))
        refine R_if_ne dX12_readAtom_127 (fun hb127 => ?_) (fun hb127 => ?_)
        · rcases q4 with ⟨b4, u4, c4, k4, x4, T4, D4, la4, lb4, H4⟩ | ⟨b4, f4, w4, H4⟩
          rotate_left
          · exfalso; omega
          have kn4 := T4.kn
          have p4 := (d4 b4).trans p3
          refine aL0 dX12_readAtom_132 ?_
          refine R_bipush dX12_readAtom_133 (by decide) ?_
          refine invV1 rfl dX12_readAtom_135 kX12_215 hG.o (Nat.le_of_ble_eq_true rfl) (Nat.zero_le _) (Nat.zero_le _) (C_X12_sign hG T4 (c := 60) (by decide) (fun h5 v5 m5 q5 => konI ?_))
          have D5 := m5.la D4
          have p5 : h5 M 13 = (dp : Int) := (m5 M 13 (by omega)).trans p4
          refine iS1 dX12_readAtom_138 ?_
          refine iL1 dX12_readAtom_139 ?_
          refine R_if_ne dX12_readAtom_140 (fun hb140 => ?_) (fun hb140 => ?_)
          · rcases q5 with ⟨z5, ⟨c5, b5, T5⟩ | ⟨c5, b5, T5⟩⟩
            rotate_left
            · exfalso; omega
            refine eqI1 (v := 1) b5 ?_
            refine aL0 dX12_readAtom_152 ?_
            refine invV0 rfl dX12_readAtom_153 kX12_239 hG.o (Nat.le_of_ble_eq_true rfl) (Nat.zero_le _) (Nat.zero_le _) (C_X12_readSum hG T5 D5 hn (by omega) (fun h6 v6 m6 d6 q6 => konI ?_))
            refine R_if_ne dX12_readAtom_156 (fun hb156 => ?_) (fun hb156 => ?_)
            · rcases q6 with ⟨b6, u6, c6, k6, x6, T6, D6, la6, lb6, H6⟩ | ⟨b6, f6, w6, H6⟩
              rotate_left
              · exfalso; omega
              have kn6 := T6.kn
              have p6 := (d6 b6).trans p5
              refine aL0 dX12_readAtom_161 ?_
              refine iL1 dX12_readAtom_162 ?_
              refine R_if_eq dX12_readAtom_163 (fun hb => absurd hb (by decide)) (fun _ => ?_)
              refine R_bipush dX12_readAtom_166 (by decide) ?_
              refine R_goto dX12_readAtom_168 ?_
              refine R_iconst_0 dX12_readAtom_173 ?_
              refine invV2 rfl dX12_readAtom_174 kX12_208 hG.o (Nat.le_of_ble_eq_true rfl) (Nat.zero_le _) (Nat.zero_le _) (C_X12_emits hG D6 hn (by omega) (fun h7 m7 E7 => konV ?_))
              have p7 : h7 M 13 = (dp : Int) := (m7 M 13 (by omega) (by omega)).trans p6
              refine R_iconst_1 dX12_readAtom_177 ?_
              exact R_zret dX12_readAtom_178 rfl (by decide) (K _ _ ((((((m1.y.tr m2.y).tr m3).tr m4).tr m5.y).tr m6).tr m7.y) (Or.inl ⟨rfl, _, _, _, (atmL_0 g1 g2 _).trans ((atm0_c (by omega)).trans (cq_y (by omega) (by omega) H4 H6)), m7.st T6, E7 (thT b L k4) (by unfold mcd; rw [if_neg (by omega), if_neg (by omega), if_neg (by omega)]; rw [if_pos (by omega)]) (mnu_w (by omega)), p7⟩))
            · rcases q6 with ⟨b6, u6, c6, k6, x6, T6, D6, la6, lb6, H6⟩ | ⟨b6, f6, w6, H6⟩
              · exfalso; omega
              refine R_iconst_0 dX12_readAtom_159 ?_
              exact R_zret dX12_readAtom_160 rfl (by decide) (K _ _ (((((m1.y.tr m2.y).tr m3).tr m4).tr m5.y).tr m6) (Or.inr ⟨rfl, _, (atmL_0 g1 g2 _).trans ((atm0_c (by omega)).trans (cq_f (by omega) (by omega) H4 H6)), w6⟩))
          · rcases q5 with ⟨z5, ⟨c5, b5, T5⟩ | ⟨c5, b5, T5⟩⟩
            · exfalso; omega
            refine eqI1 (v := 0) b5 ?_
            refine aL0 dX12_readAtom_143 ?_
            refine R_bipush dX12_readAtom_144 (by decide) ?_
            refine invV1 rfl dX12_readAtom_146 kX12_215 hG.o (Nat.le_of_ble_eq_true rfl) (Nat.zero_le _) (Nat.zero_le _) (C_X12_sign hG T5 (c := 62) (by decide) (fun h8 v8 m8 q8 => konI ?_))
            have D8 := m8.la D5
            have p8 : h8 M 13 = (dp : Int) := (m8 M 13 (by omega)).trans p5
            refine R_if_eq dX12_readAtom_149 (fun hb149 => ?_) (fun hb149 => ?_)
            · rcases q8 with ⟨z8, ⟨c8, b8, T8⟩ | ⟨c8, b8, T8⟩⟩
              · exfalso; omega
              refine R_iconst_0 dX12_readAtom_159 ?_
              exact R_zret dX12_readAtom_160 rfl (by decide) (K _ _ (((((m1.y.tr m2.y).tr m3).tr m4).tr m5.y).tr m8.y) (Or.inr ⟨rfl, _, (atmL_0 g1 g2 _).trans ((atm0_c (by omega)).trans (cq_n (by omega) (by omega) H4)), z8⟩))
            · rcases q8 with ⟨z8, ⟨c8, b8, T8⟩ | ⟨c8, b8, T8⟩⟩
              rotate_left
              · exfalso; omega
              refine aL0 dX12_readAtom_152 ?_
              refine invV0 rfl dX12_readAtom_153 kX12_239 hG.o (Nat.le_of_ble_eq_true rfl) (Nat.zero_le _) (Nat.zero_le _) (C_X12_readSum hG T8 D8 hn (by omega) (fun h9 v9 m9 d9 q9 => konI ?_))
              refine R_if_ne dX12_readAtom_156 (fun hb156 => ?_) (fun hb156 => ?_)
              · rcases q9 with ⟨b9, u9, c9, k9, x9, T9, D9, la9, lb9, H9⟩ | ⟨b9, f9, w9, H9⟩
                rotate_left
                · exfalso; omega
                have kn9 := T9.kn
                have p9 := (d9 b9).trans p8
                refine aL0 dX12_readAtom_161 ?_
                refine iL1 dX12_readAtom_162 ?_
                refine R_if_eq dX12_readAtom_163 (fun _ => ?_) (fun hb => absurd hb (by decide))
                refine R_bipush dX12_readAtom_171 (by decide) ?_
                refine R_iconst_0 dX12_readAtom_173 ?_
                refine invV2 rfl dX12_readAtom_174 kX12_208 hG.o (Nat.le_of_ble_eq_true rfl) (Nat.zero_le _) (Nat.zero_le _) (C_X12_emits hG D9 hn (by omega) (fun h10 m10 E10 => konV ?_))
                have p10 : h10 M 13 = (dp : Int) := (m10 M 13 (by omega) (by omega)).trans p9
                refine R_iconst_1 dX12_readAtom_177 ?_
                exact R_zret dX12_readAtom_178 rfl (by decide) (K _ _ (((((((m1.y.tr m2.y).tr m3).tr m4).tr m5.y).tr m8.y).tr m9).tr m10.y) (Or.inl ⟨rfl, _, _, _, (atmL_0 g1 g2 _).trans ((atm0_c (by omega)).trans (cq_y (by omega) (by omega) H4 H9)), m10.st T9, E10 (thT b L k4) (by unfold mcd; rw [if_neg (by omega), if_neg (by omega), if_neg (by omega)]; rw [if_neg (by omega), if_pos (by omega)]) (mnu_w (by omega)), p10⟩))
              · rcases q9 with ⟨b9, u9, c9, k9, x9, T9, D9, la9, lb9, H9⟩ | ⟨b9, f9, w9, H9⟩
                · exfalso; omega
                refine R_iconst_0 dX12_readAtom_159 ?_
                exact R_zret dX12_readAtom_160 rfl (by decide) (K _ _ ((((((m1.y.tr m2.y).tr m3).tr m4).tr m5.y).tr m8.y).tr m9) (Or.inr ⟨rfl, _, (atmL_0 g1 g2 _).trans ((atm0_c (by omega)).trans (cq_f (by omega) (by omega) H4 H9)), w9⟩))
        · rcases q4 with ⟨b4, u4, c4, k4, x4, T4, D4, la4, lb4, H4⟩ | ⟨b4, f4, w4, H4⟩
          · exfalso; omega
          refine R_iconst_0 dX12_readAtom_130 ?_
          exact R_zret dX12_readAtom_131 rfl (by decide) (K _ _ (((m1.y.tr m2.y).tr m3).tr m4) (Or.inr ⟨rfl, _, (atmL_0 g1 g2 _).trans ((atm0_c (by omega)).trans (H4 400 (-1) (by omega))), w4⟩))
      · rcases q3 with ⟨b3, c3, T3, D3⟩ | ⟨b3, c3, T3, D3⟩
        rotate_left
        · exfalso; omega
        refine R_iconst_1 dX12_readAtom_121 ?_
        exact R_zret dX12_readAtom_122 rfl (by decide) (K _ _ ((m1.y.tr m2.y).tr m3) (Or.inl ⟨rfl, _, _, _, (atmL_0 g1 g2 _).trans (atm0_t c3), T3, D3, p3⟩))
    · rcases q2 with ⟨z2, ⟨c2, b2, T2⟩ | ⟨c2, b2, T2⟩⟩
      rotate_left
      · exfalso; omega
      have kq2 := T2.kn
      refine aL0 dX12_readAtom_65 ?_
      refine R_getI dX12_readAtom_66 fX12_225.r hG.o ?_
      refine topV (v := ((dp : Nat) : Int)) (p2) ?_
      refine R_bipush dX12_readAtom_69 (by decide) ?_
      refine R_icmp_ne dX12_readAtom_71 (fun hb71 => ?_) (fun hb71 => ?_)
      · refine aL0 dX12_readAtom_76 ?_
        refine dupR dX12_readAtom_77 ?_
        refine R_getI dX12_readAtom_78 fX12_225.r hG.o ?_
        refine topV (v := ((dp : Nat) : Int)) (p2) ?_
        refine R_iconst_1 dX12_readAtom_81 ?_
        refine addV dX12_readAtom_82 (v := (((dp + 1) : Nat) : Int)) (by rw [wid (by omega) (by omega)]; omega) ?_
        refine R_putI dX12_readAtom_83 fX12_225 hG.o ?_
        refine storH (fun h11 e11 => ?_)
        have T11 : StM M h11 b L (k + 1) := by rw [e11]; exact StM.dp T2
        have D11 : LaM M h11 u n c := by rw [e11]; exact LaM.dp D2
        have p11 : h11 M 13 = (((dp + 1) : Nat) : Int) := by rw [e11]; exact updH_s _ _ _ _
        have y11 : MvY M h h11 := by rw [e11]; exact MvY.dp (m1.y.tr m2.y)
        refine aL0 dX12_readAtom_86 ?_
        refine invV0 rfl dX12_readAtom_87 kX12_233 hG.o (Nat.le_of_ble_eq_true rfl) (Nat.zero_le _) (Nat.zero_le _) (hA hG T11 D11 hn (by omega) p11 (by omega) (by omega) (fun h12 v12 m12 q12 => konI ?_))
        refine R_if_ne dX12_readAtom_90 (fun hb90 => ?_) (fun hb90 => ?_)
        · rcases q12 with ⟨b12, u12, c12, k12, r12, T12, D12, p12⟩ | ⟨b12, f12, r12, w12⟩
          rotate_left
          · exfalso; omega
          have kn12 := T12.kn
          have le12 := atmL_le r _ _ _ _ _ _ r12
          refine aL0 dX12_readAtom_95 ?_
          refine dupR dX12_readAtom_96 ?_
          refine R_getI dX12_readAtom_97 fX12_225.r hG.o ?_
          refine topV (v := (((dp + 1) : Nat) : Int)) (p12) ?_
          refine R_iconst_1 dX12_readAtom_100 ?_
          refine subV dX12_readAtom_101 (wid (by omega) (by omega)) ?_
          refine topV (v := ((dp : Nat) : Int)) (by omega) ?_
          refine R_putI dX12_readAtom_102 fX12_225 hG.o ?_
          refine storH (fun h13 e13 => ?_)
          have T13 : StM M h13 b L k12 := by rw [e13]; exact StM.dp T12
          have D13 : LaM M h13 u12 n c12 := by rw [e13]; exact LaM.dp D12
          have p13 : h13 M 13 = ((dp : Nat) : Int) := by rw [e13]; exact updH_s _ _ _ _
          have y13 : MvY M h h13 := by rw [e13]; exact MvY.dp (y11.tr m12)
          refine aL0 dX12_readAtom_105 ?_
          refine R_bipush dX12_readAtom_106 (by decide) ?_
          refine R_iconst_0 dX12_readAtom_108 ?_
          refine invV2 rfl dX12_readAtom_109 kX12_208 hG.o (Nat.le_of_ble_eq_true rfl) (Nat.zero_le _) (Nat.zero_le _) (C_X12_emits hG D13 hn (by omega) (fun h14 m14 E14 => konV ?_))
          have p14 : h14 M 13 = ((dp : Nat) : Int) := (m14 M 13 (by omega) (by omega)).trans p13
          refine R_iconst_1 dX12_readAtom_112 ?_
          exact R_zret dX12_readAtom_113 rfl (by decide) (K _ _ (y13.tr m14.y) (Or.inl ⟨rfl, _, _, _, atmL_ny (by omega) r12, m14.st T13, E14 1023 (by decide) (by decide), p14⟩))
        · rcases q12 with ⟨b12, u12, c12, k12, r12, T12, D12, p12⟩ | ⟨b12, f12, r12, w12⟩
          · exfalso; omega
          refine R_iconst_0 dX12_readAtom_93 ?_
          exact R_zret dX12_readAtom_94 rfl (by decide) (K _ _ (y11.tr m12) (Or.inr ⟨rfl, _, atmL_nf (by omega) r12, w12⟩))
      · exfalso; omega
  · rcases q1 with ⟨z1, ⟨c1, b1, T1⟩ | ⟨c1, b1, T1⟩⟩
    rotate_left
    · exfalso; omega
    have kq1 := T1.kn
    refine aL0 dX12_readAtom_9 ?_
    refine R_getI dX12_readAtom_10 fX12_225.r hG.o ?_
    refine topV (v := ((dp : Nat) : Int)) (p1) ?_
    refine R_bipush dX12_readAtom_13 (by decide) ?_
    refine R_icmp_ne dX12_readAtom_15 (fun hb15 => ?_) (fun hb15 => ?_)
    · refine aL0 dX12_readAtom_20 ?_
      refine dupR dX12_readAtom_21 ?_
      refine R_getI dX12_readAtom_22 fX12_225.r hG.o ?_
      refine topV (v := ((dp : Nat) : Int)) (p1) ?_
      refine R_iconst_1 dX12_readAtom_25 ?_
      refine addV dX12_readAtom_26 (v := (((dp + 1) : Nat) : Int)) (by rw [wid (by omega) (by omega)]; omega) ?_
      refine R_putI dX12_readAtom_27 fX12_225 hG.o ?_
      refine storH (fun h15 e15 => ?_)
      have T15 : StM M h15 b L (k + 1) := by rw [e15]; exact StM.dp T1
      have D15 : LaM M h15 u n c := by rw [e15]; exact LaM.dp D1
      have p15 : h15 M 13 = (((dp + 1) : Nat) : Int) := by rw [e15]; exact updH_s _ _ _ _
      have y15 : MvY M h h15 := by rw [e15]; exact MvY.dp m1.y
      refine aL0 dX12_readAtom_30 ?_
      refine invV0 rfl dX12_readAtom_31 kX12_228 hG.o (Nat.le_of_ble_eq_true rfl) (Nat.zero_le _) (Nat.zero_le _) (hC hG T15 D15 hn (by omega) p15 (by omega) (by omega) (fun h16 v16 m16 q16 => konI ?_))
      refine R_if_ne dX12_readAtom_34 (fun hb34 => ?_) (fun hb34 => ?_)
      · rcases q16 with ⟨b16, u16, c16, k16, r16, T16, D16, p16⟩ | ⟨b16, f16, r16, w16⟩
        rotate_left
        · exfalso; omega
        have kn16 := T16.kn
        refine aL0 dX12_readAtom_39 ?_
        refine dupR dX12_readAtom_40 ?_
        refine R_getI dX12_readAtom_41 fX12_225.r hG.o ?_
        refine topV (v := (((dp + 1) : Nat) : Int)) (p16) ?_
        refine R_iconst_1 dX12_readAtom_44 ?_
        refine subV dX12_readAtom_45 (wid (by omega) (by omega)) ?_
        refine topV (v := ((dp : Nat) : Int)) (by omega) ?_
        refine R_putI dX12_readAtom_46 fX12_225 hG.o ?_
        refine storH (fun h17 e17 => ?_)
        have T17 : StM M h17 b L k16 := by rw [e17]; exact StM.dp T16
        have D17 : LaM M h17 u16 n c16 := by rw [e17]; exact LaM.dp D16
        have p17 : h17 M 13 = ((dp : Nat) : Int) := by rw [e17]; exact updH_s _ _ _ _
        have y17 : MvY M h h17 := by rw [e17]; exact MvY.dp (y15.tr m16)
        refine aL0 dX12_readAtom_49 ?_
        refine R_bipush dX12_readAtom_50 (by decide) ?_
        refine invV1 rfl dX12_readAtom_52 kX12_215 hG.o (Nat.le_of_ble_eq_true rfl) (Nat.zero_le _) (Nat.zero_le _) (C_X12_sign hG T17 (c := 41) (by decide) (fun h18 v18 m18 q18 => konI ?_))
        have D18 := m18.la D17
        have p18 : h18 M 13 = ((dp : Nat) : Int) := (m18 M 13 (by omega)).trans p17
        exact R_zret dX12_readAtom_55 rfl (by rcases q18.2 with ⟨-, q, -⟩ | ⟨-, q, -⟩ <;> omega) (K _ _ (y17.tr m18.y) (op_end (by omega) r16 q18 D18 p18))
      · rcases q16 with ⟨b16, u16, c16, k16, r16, T16, D16, p16⟩ | ⟨b16, f16, r16, w16⟩
        · exfalso; omega
        refine R_iconst_0 dX12_readAtom_37 ?_
        exact R_zret dX12_readAtom_38 rfl (by decide) (K _ _ (y15.tr m16) (Or.inr ⟨rfl, _, atmL_of (by omega) r16, w16⟩))
    · exfalso; omega
def aftC (t : Nat → Int) (A : (Nat → Int) → Nat → Nat → Nat ⊕ LsT) (m : Nat) (o : Bool) (u : Nat → Int) (c k : Nat) : Nat ⊕ LsT := if t k = 1021 then cndL t A m true false (emU u c o 1021) (emC c o) (k + 1) else .inr (emU u c o 1021, emC c o, k)
def cnd1 (t : Nat → Int) (A : (Nat → Int) → Nat → Nat → Nat ⊕ LsT) (m : Nat) (o : Bool) (u : Nat → Int) (c k : Nat) : Nat ⊕ LsT := if t k = 1022 then cndL t A m o true u c (k + 1) else aftC t A m o u c k
def aft1 (t : Nat → Int) (A : (Nat → Int) → Nat → Nat → Nat ⊕ LsT) (m : Nat) (u : Nat → Int) (c k : Nat) : Nat ⊕ LsT := if t k = 1021 then cndL t A m true false u c (k + 1) else .inr (u, c, k)
section
variable {t u ua u1 u2 : Nat → Int} {A : (Nat → Int) → Nat → Nat → Nat ⊕ LsT} {m k c ca ka c1 k1 c2 k2 f : Nat} {o a : Bool}
theorem cnd_1 (h : A u c k = .inr (u1, c1, k1)) : cndL t A (m + 1) o a u c k = cnd1 t A m o (emU u1 c1 a 1022) (emC c1 a) k1 := by
  rw [cndL_s, h]
  rfl
theorem cn_0 (hk : k ≤ 400) (h : A u c k = .inr (u1, c1, k1)) (hk1 : k < k1) : ∀ (m : Nat) (o : Bool), 401 ≤ m + k → ∃ m', 401 ≤ m' + k1 ∧ cndL t A m o false u c k = cnd1 t A m' o u1 c1 k1 := by
  intro m o hm
  obtain ⟨m, rfl⟩ : ∃ m', m = m' + 1 := ⟨m - 1, by omega⟩
  exact ⟨m, by omega, cnd_1 h⟩
theorem cn_f (hk : k ≤ 400) (h : A u c k = .inl f) : ∀ (m : Nat) (o : Bool), 401 ≤ m + k → cndL t A m o false u c k = .inl f := by
  intro m o hm
  obtain ⟨m, rfl⟩ : ∃ m', m = m' + 1 := ⟨m - 1, by omega⟩
  exact cndL_f h
theorem cn_s (hk : ka + 1 ≤ 400) (hp : t ka = 1022) (h : A ua ca (ka + 1) = .inr (u1, c1, k1)) (hk1 : ka + 1 < k1) (H : ∀ (m : Nat) (o : Bool), 401 ≤ m + k → ∃ m', 401 ≤ m' + ka ∧ cndL t A m o false u c k = cnd1 t A m' o ua ca ka) : ∀ (m : Nat) (o : Bool), 401 ≤ m + k → ∃ m', 401 ≤ m' + k1 ∧ cndL t A m o false u c k = cnd1 t A m' o (updW u1 c1 1022) (c1 + 1) k1 := by
  intro m o hm
  obtain ⟨m', h1, h2⟩ := H m o hm
  obtain ⟨m2, rfl⟩ : ∃ m2, m' = m2 + 1 := ⟨m' - 1, by omega⟩
  exact ⟨m2, by omega, h2.trans ((if_pos hp).trans (cnd_1 h))⟩
theorem cn_sf (hk : ka ≤ 400) (hp : t ka = 1022) (h : A ua ca (ka + 1) = .inl f) (H : ∀ (m : Nat) (o : Bool), 401 ≤ m + k → ∃ m', 401 ≤ m' + ka ∧ cndL t A m o false u c k = cnd1 t A m' o ua ca ka) : ∀ (m : Nat) (o : Bool), 401 ≤ m + k → cndL t A m o false u c k = .inl f := by
  intro m o hm
  obtain ⟨m', h1, h2⟩ := H m o hm
  obtain ⟨m2, rfl⟩ : ∃ m2, m' = m2 + 1 := ⟨m' - 1, by omega⟩
  exact h2.trans ((if_pos hp).trans (cndL_f h))
theorem cn_e (hp : ¬ t ka = 1022) (H : ∀ (m : Nat) (o : Bool), 401 ≤ m + k → ∃ m', 401 ≤ m' + ka ∧ cndL t A m o false u c k = cnd1 t A m' o ua ca ka) : ∀ (m : Nat) (o : Bool), 401 ≤ m + k → ∃ m', 401 ≤ m' + ka ∧ cndL t A m o false u c k = aftC t A m' o ua ca ka := by
  intro m o hm
  obtain ⟨m', h1, h2⟩ := H m o hm
  exact ⟨m', h1, h2.trans (if_neg hp)⟩
theorem co_0 (hk : 1 ≤ k) (H : ∀ (m : Nat) (o : Bool), 401 ≤ m + k → ∃ m', 401 ≤ m' + k1 ∧ cndL t A m o false u c k = aftC t A m' o u1 c1 k1) : ∃ m', 401 ≤ m' + k1 ∧ cndL t A 400 false false u c k = aft1 t A m' u1 c1 k1 := H 400 false (by omega)
theorem co_s {R : Nat ⊕ LsT} (hp : t ka = 1021) (H0 : ∃ m', 401 ≤ m' + ka ∧ R = aft1 t A m' ua ca ka) (H : ∀ (m : Nat) (o : Bool), 401 ≤ m + (ka + 1) → ∃ m', 401 ≤ m' + k1 ∧ cndL t A m o false ua ca (ka + 1) = aftC t A m' o u1 c1 k1) : ∃ m', 401 ≤ m' + k1 ∧ R = aft1 t A m' (updW u1 c1 1021) (c1 + 1) k1 := by
  obtain ⟨m', h1, h2⟩ := H0
  obtain ⟨m2, h3, h4⟩ := H m' true (by omega)
  exact ⟨m2, h3, h2.trans ((if_pos hp).trans h4)⟩
theorem co_sf {R : Nat ⊕ LsT} (hp : t ka = 1021) (H0 : ∃ m', 401 ≤ m' + ka ∧ R = aft1 t A m' ua ca ka) (H : ∀ (m : Nat) (o : Bool), 401 ≤ m + (ka + 1) → cndL t A m o false ua ca (ka + 1) = .inl f) : R = .inl f := by
  obtain ⟨m', h1, h2⟩ := H0
  exact h2.trans ((if_pos hp).trans (H m' true (by omega)))
theorem co_e {R : Nat ⊕ LsT} (hp : ¬ t ka = 1021) (H0 : ∃ m', 401 ≤ m' + ka ∧ R = aft1 t A m' ua ca ka) : R = .inr (ua, ca, ka) := by
  obtain ⟨m', h1, h2⟩ := H0
  exact h2.trans (if_neg hp)
end
def AfM (M : Nat) (h : Hc) (b : Nat → Int) (L n : Nat) (dp : Int) (A : (Nat → Int) → Nat → Nat → Nat ⊕ LsT) (u : Nat → Int) (c k : Nat) (v : Int) : Prop := (v = 1 ∧ ∃ u1 c1 k1, ¬ thT b L k1 = 1022 ∧ StM M h b L k1 ∧ LaM M h u1 n c1 ∧ h M 13 = dp ∧ k < k1 ∧ c1 + k ≤ c + k1 ∧ ∀ (m : Nat) (o : Bool), 401 ≤ m + k → ∃ m', 401 ≤ m' + k1 ∧ cndL (thT b L) A m o false u c k = aftC (thT b L) A m' o u1 c1 k1) ∨ (v = 0 ∧ ∃ f, WrM M h b L f ∧ ∀ (m : Nat) (o : Bool), 401 ≤ m + k → cndL (thT b L) A m o false u c k = .inl f)
set_option maxHeartbeats 1000000 in
theorem C_X12_readAllOf {d : Nat} {g : Gs} {h : Hc} {P : Po} {M : Nat} (hG : MdG g M) {b : Nat → Int} {L : Nat} {k : Nat} (hT : StM M h b L k) {u : Nat → Int} {n c : Nat} (hD : LaM M h u n c) (hn : n ≤ 12) (hck : c + 3 ≤ k) {r dp : Nat} (hA : AtM M b L r) (hp : h M 13 = (dp : Int)) (hdp : dp + r = 6) (hd : 3 * r + 9 ≤ d + 9) (K : ∀ h' (v : Int), MvY M h h' → AfM M h' b L n (dp : Int) (atmL (thT b L) r) u c k v → P (.inl (some (vI v))) g h') : Call (d + 9) 0 0 mX12_readAllOf [vR M] g h P := by
  have hkn := hT.kn
  refine Call_of rfl ⟨by decide +kernel, rfl⟩ (Nat.le_of_ble_eq_true rfl) rfl ?_
  refine aL0 dX12_readAllOf_0 ?_
  refine invV0 rfl dX12_readAllOf_1 kX12_233 hG.o (Nat.le_of_ble_eq_true rfl) (Nat.zero_le _) (Nat.zero_le _) (hA hG hT hD hn (by omega) hp (by omega) (by omega) (fun h1 v1 m1 q1 => konI ?_))
  refine R_if_ne dX12_readAllOf_4 (fun hb4 => ?_) (fun hb4 => ?_)
  · rcases q1 with ⟨b1, u1, c1, k1, r1, T1, D1, p1⟩ | ⟨b1, f1, r1, w1⟩
    rotate_left
    · exfalso; omega
    have kn1 := T1.kn
    have le1 := atmL_le r _ _ _ _ _ _ r1
    refine loopN 400 (fun q => ∀ (hh : Hc) (ua : Nat → Int) (ca ka : Nat), MvY M h hh → StM M hh b L ka → LaM M hh ua n ca → hh M 13 = (dp : Int) → q ≤ ka → k < ka → ca + k ≤ c + ka → (∀ (m : Nat) (o : Bool), 401 ≤ m + k → ∃ m', 401 ≤ m' + ka ∧ cndL (thT b L) (atmL (thT b L) r) m o false u c k = cnd1 (thT b L) (atmL (thT b L) r) m' o ua ca ka) → Run (d + 9) 0 0 mX12_readAllOf 9 [vR M] [] g hh P) (fun q hcq ihq hh ua ca ka hm hTa hDa hpa i1 i2 i3 hR => ?_) 0 (Nat.zero_le _) h1 _ _ _ m1 T1 D1 p1 (Nat.zero_le _) (by omega) (by omega) (cn_0 hkn r1 le1.1)
    have hka := hTa.kn
    refine aL0 dX12_readAllOf_9 ?_
    refine R_ldcS (i := 19) dX12_readAllOf_10 rfl ?_
    refine invV1 rfl dX12_readAllOf_12 kX12_144 hG.o (Nat.le_of_ble_eq_true rfl) (Nat.zero_le _) (Nat.zero_le _) (C_X12_passes hG hTa 19 22 (by decide) (by decide) sw_19 (fun h2 v2 m2 q2 => konI ?_))
    have D2 := m2.la hDa
    have p2 : h2 M 13 = (dp : Int) := (m2 M 13 (by omega)).trans hpa
    refine R_if_eq dX12_readAllOf_15 (fun hb15 => ?_) (fun hb15 => ?_)
    · rcases q2 with ⟨z2, ⟨c2, b2, T2⟩ | ⟨c2, b2, T2⟩⟩
      · exfalso; omega
      refine R_iconst_1 dX12_readAllOf_37 ?_
      exact R_zret dX12_readAllOf_38 rfl (by decide) (K _ _ (hm.tr m2.y) (Or.inl ⟨rfl, ua, ca, ka, by omega, T2, D2, p2, i2, i3, cn_e (by omega) hR⟩))
    · rcases q2 with ⟨z2, ⟨c2, b2, T2⟩ | ⟨c2, b2, T2⟩⟩
      rotate_left
      · exfalso; omega
      have kn2 := T2.kn
      refine aL0 dX12_readAllOf_18 ?_
      refine invV0 rfl dX12_readAllOf_19 kX12_233 hG.o (Nat.le_of_ble_eq_true rfl) (Nat.zero_le _) (Nat.zero_le _) (hA hG T2 D2 hn (by omega) p2 (by omega) (by omega) (fun h3 v3 m3 q3 => konI ?_))
      refine R_if_ne dX12_readAllOf_22 (fun hb22 => ?_) (fun hb22 => ?_)
      · rcases q3 with ⟨b3, u3, c3, k3, r3, T3, D3, p3⟩ | ⟨b3, f3, r3, w3⟩
        rotate_left
        · exfalso; omega
        have kn3 := T3.kn
        have le3 := atmL_le r _ _ _ _ _ _ r3
        refine aL0 dX12_readAllOf_27 ?_
        refine R_bipush dX12_readAllOf_28 (by decide) ?_
        refine R_iconst_0 dX12_readAllOf_30 ?_
        refine invV2 rfl dX12_readAllOf_31 kX12_208 hG.o (Nat.le_of_ble_eq_true rfl) (Nat.zero_le _) (Nat.zero_le _) (C_X12_emits hG D3 hn (by omega) (fun h4 m4 E4 => konV ?_))
        have p4 : h4 M 13 = (dp : Int) := (m4 M 13 (by omega) (by omega)).trans p3
        refine R_goto dX12_readAllOf_34 ?_
        exact ihq (by omega) _ _ _ _ (((hm.tr m2.y).tr m3).tr m4.y) (m4.st T3) (E4 1022 (by decide) (by decide)) p4 (by omega) (by omega) (by omega) (cn_s (by omega) (by omega) r3 le3.1 hR)
      · rcases q3 with ⟨b3, u3, c3, k3, r3, T3, D3, p3⟩ | ⟨b3, f3, r3, w3⟩
        · exfalso; omega
        refine R_iconst_0 dX12_readAllOf_25 ?_
        exact R_zret dX12_readAllOf_26 rfl (by decide) (K _ _ ((hm.tr m2.y).tr m3) (Or.inr ⟨rfl, _, w3, cn_sf hka (by omega) r3 hR⟩))
  · rcases q1 with ⟨b1, u1, c1, k1, r1, T1, D1, p1⟩ | ⟨b1, f1, r1, w1⟩
    · exfalso; omega
    refine R_iconst_0 dX12_readAllOf_7 ?_
    exact R_zret dX12_readAllOf_8 rfl (by decide) (K _ _ m1 (Or.inr ⟨rfl, _, w1, cn_f hkn r1⟩))
set_option maxHeartbeats 1000000 in
theorem C_X12_readCond {d : Nat} {g : Gs} {h : Hc} {P : Po} {M : Nat} (hG : MdG g M) {b : Nat → Int} {L : Nat} {k : Nat} (hT : StM M h b L k) {u : Nat → Int} {n c : Nat} (hD : LaM M h u n c) (hn : n ≤ 12) (hck : c + 3 ≤ k) {r dp : Nat} (hA : AtM M b L r) (hp : h M 13 = (dp : Int)) (hdp : dp + r = 6) (hd : 3 * r + 10 ≤ d + 10) (K : ∀ h' (v : Int), MvY M h h' → AoM M h' b L n (dp : Int) v (cndL (thT b L) (atmL (thT b L) r) 400 false false u c k) → P (.inl (some (vI v))) g h') : Call (d + 10) 0 0 mX12_readCond [vR M] g h P := by
  have hkn := hT.kn
  refine Call_of rfl ⟨by decide +kernel, rfl⟩ (Nat.le_of_ble_eq_true rfl) rfl ?_
  refine aL0 dX12_readCond_0 ?_
  refine invV0 rfl dX12_readCond_1 kX12_244 hG.o (Nat.le_of_ble_eq_true rfl) (Nat.zero_le _) (Nat.zero_le _) (C_X12_readAllOf hG hT hD hn (by omega) hA hp hdp (by omega) (fun h1 v1 m1 q1 => konI ?_))
  refine R_if_ne dX12_readCond_4 (fun hb4 => ?_) (fun hb4 => ?_)
  · rcases q1 with ⟨b1, u1, c1, k1, x1, T1, D1, p1, la1, lb1, H1⟩ | ⟨b1, f1, w1, H1⟩
    rotate_left
    · exfalso; omega
    have kn1 := T1.kn
    refine loopN 400 (fun q => ∀ (hh : Hc) (ua : Nat → Int) (ca ka : Nat), MvY M h hh → StM M hh b L ka → LaM M hh ua n ca → hh M 13 = (dp : Int) → q ≤ ka → k < ka → ca + k ≤ c + ka → (∃ m', 401 ≤ m' + ka ∧ cndL (thT b L) (atmL (thT b L) r) 400 false false u c k = aft1 (thT b L) (atmL (thT b L) r) m' ua ca ka) → Run (d + 10) 0 0 mX12_readCond 9 [vR M] [] g hh P) (fun q hcq ihq hh ua ca ka hm hTa hDa hpa i1 i2 i3 hR => ?_) 0 (Nat.zero_le _) h1 _ _ _ m1 T1 D1 p1 (Nat.zero_le _) (by omega) (by omega) (co_0 (by omega) H1)
    have hka := hTa.kn
    refine aL0 dX12_readCond_9 ?_
    refine R_ldcS (i := 20) dX12_readCond_10 rfl ?_
    refine invV1 rfl dX12_readCond_12 kX12_144 hG.o (Nat.le_of_ble_eq_true rfl) (Nat.zero_le _) (Nat.zero_le _) (C_X12_passes hG hTa 20 21 (by decide) (by decide) sw_20 (fun h2 v2 m2 q2 => konI ?_))
    have D2 := m2.la hDa
    have p2 : h2 M 13 = (dp : Int) := (m2 M 13 (by omega)).trans hpa
    refine R_if_eq dX12_readCond_15 (fun hb15 => ?_) (fun hb15 => ?_)
    · rcases q2 with ⟨z2, ⟨c2, b2, T2⟩ | ⟨c2, b2, T2⟩⟩
      · exfalso; omega
      refine R_iconst_1 dX12_readCond_37 ?_
      exact R_zret dX12_readCond_38 rfl (by decide) (K _ _ (hm.tr m2.y) (Or.inl ⟨rfl, ua, ca, ka, co_e (by omega) hR, T2, D2, p2⟩))
    · rcases q2 with ⟨z2, ⟨c2, b2, T2⟩ | ⟨c2, b2, T2⟩⟩
      rotate_left
      · exfalso; omega
      have kn2 := T2.kn
      refine aL0 dX12_readCond_18 ?_
      refine invV0 rfl dX12_readCond_19 kX12_244 hG.o (Nat.le_of_ble_eq_true rfl) (Nat.zero_le _) (Nat.zero_le _) (C_X12_readAllOf hG T2 D2 hn (by omega) hA p2 hdp (by omega) (fun h3 v3 m3 q3 => konI ?_))
      refine R_if_ne dX12_readCond_22 (fun hb22 => ?_) (fun hb22 => ?_)
      · rcases q3 with ⟨b3, u3, c3, k3, x3, T3, D3, p3, la3, lb3, H3⟩ | ⟨b3, f3, w3, H3⟩
        rotate_left
        · exfalso; omega
        have kn3 := T3.kn
        refine aL0 dX12_readCond_27 ?_
        refine R_bipush dX12_readCond_28 (by decide) ?_
        refine R_iconst_0 dX12_readCond_30 ?_
        refine invV2 rfl dX12_readCond_31 kX12_208 hG.o (Nat.le_of_ble_eq_true rfl) (Nat.zero_le _) (Nat.zero_le _) (C_X12_emits hG D3 hn (by omega) (fun h4 m4 E4 => konV ?_))
        have p4 : h4 M 13 = (dp : Int) := (m4 M 13 (by omega) (by omega)).trans p3
        refine R_goto dX12_readCond_34 ?_
        exact ihq (by omega) _ _ _ _ (((hm.tr m2.y).tr m3).tr m4.y) (m4.st T3) (E4 1021 (by decide) (by decide)) p4 (by omega) (by omega) (by omega) (co_s (by omega) hR H3)
      · rcases q3 with ⟨b3, u3, c3, k3, x3, T3, D3, p3, la3, lb3, H3⟩ | ⟨b3, f3, w3, H3⟩
        · exfalso; omega
        refine R_iconst_0 dX12_readCond_25 ?_
        exact R_zret dX12_readCond_26 rfl (by decide) (K _ _ ((hm.tr m2.y).tr m3) (Or.inr ⟨rfl, _, co_sf (by omega) hR H3, w3⟩))
  · rcases q1 with ⟨b1, u1, c1, k1, x1, T1, D1, p1, la1, lb1, H1⟩ | ⟨b1, f1, w1, H1⟩
    · exfalso; omega
    refine R_iconst_0 dX12_readCond_7 ?_
    exact R_zret dX12_readCond_8 rfl (by decide) (K _ _ m1 (Or.inr ⟨rfl, _, H1 400 false (by omega), w1⟩))
theorem CnM_of {M : Nat} {b : Nat → Int} {L r : Nat} (hA : AtM M b L r) : CnM M b L r := by
  intro d g h P k u n c dp hG hT hD hn hck hp hdp hd K
  obtain ⟨d, rfl⟩ : ∃ d', d = d' + 10 := ⟨d - 10, by omega⟩
  exact C_X12_readCond hG hT hD hn hck hA hp hdp hd K
theorem AtM_all (M : Nat) (b : Nat → Int) (L : Nat) : ∀ r, AtM M b L r := by
  intro r
  induction r with
  | zero =>
    intro d g h P k u n c dp hG hT hD hn hck hp hdp hd K
    obtain ⟨d, rfl⟩ : ∃ d', d = d' + 8 := ⟨d - 8, by omega⟩
    exact C_X12_readAtom_z hG hT hD hn hck hp hdp K
  | succ r ih =>
    intro d g h P k u n c dp hG hT hD hn hck hp hdp hd K
    obtain ⟨d, rfl⟩ : ∃ d', d = d' + 8 := ⟨d - 8, by omega⟩
    exact C_X12_readAtom_s hG hT hD hn hck ih (CnM_of ih) hp hdp hd K
theorem C_condM {d : Nat} {g : Gs} {h : Hc} {P : Po} {M : Nat} (hG : MdG g M) {b : Nat → Int} {L k : Nat} (hT : StM M h b L k) {u : Nat → Int} {n c : Nat} (hD : LaM M h u n c) (hn : n ≤ 12) (hck : c + 3 ≤ k) (hp : h M 13 = 0) (hd : 28 ≤ d) (K : ∀ h' (v : Int), MvY M h h' → AoM M h' b L n 0 v (cndL (thT b L) (atmL (thT b L) 6) 400 false false u c k) → P (.inl (some (vI v))) g h') : Call d 0 0 mX12_readCond [vR M] g h P :=
  @CnM_of M b L 6 (AtM_all M b L 6) d g h P k u n c 0 hG hT hD hn hck hp (by omega) (by omega) K
