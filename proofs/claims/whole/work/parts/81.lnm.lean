/-! LINES OF THE ASSIZE, BY THE MODEL -/
def MvX (M : Nat) (h h' : Hc) : Prop := ∀ a i, ¬ (a = M ∧ (i = 10 ∨ i = 12)) → a ≠ M + 1 → h' a i = h a i
theorem MvM.x {M : Nat} {h h' : Hc} (p : MvM M h h') : MvX M h h' := fun a i n _ => p a i n
theorem MvX.rf {M : Nat} {h : Hc} : MvX M h h := fun _ _ _ _ => rfl
theorem MvX.tr {M : Nat} {h1 h2 h3 : Hc} (p : MvX M h1 h2) (q : MvX M h2 h3) : MvX M h1 h3 := fun a i n m => (q a i n m).trans (p a i n m)
theorem MvX.up {M i : Nat} {h h' : Hc} {v : Int} (p : MvX M h h') : MvX M h (updH h' (M + 1) i v) := by
  intro a j n m
  rw [updH_a m]
  exact p a j n m
theorem MvM.w {M : Nat} {h h' : Hc} {w : Nat → Int} (p : MvM M h h') (hW : h (M + 1) = w) : h' (M + 1) = w := (p.a (by omega)).trans hW
theorem StM.wd {M i : Nat} {h : Hc} {b : Nat → Int} {L k : Nat} {v : Int} (q : StM M h b L k) : StM M (updH h (M + 1) i v) b L k := by
  obtain ⟨p, h1, h2, h3⟩ := q
  exact ⟨p, h1.wd, h2, h3⟩
theorem updW_same {w : Nat → Int} {i : Nat} {v : Int} (h : w i = v) : updW w i v = w := by
  funext j
  unfold updW
  by_cases e : j = i
  · rw [if_pos e, e, h]
  · rw [if_neg e]
theorem hW_up {h : Hc} {a i : Nat} {w : Nat → Int} {v : Int} (hW : h a = w) : updH h a i v a = updW w i v := by rw [updH_r, hW]
def LnM (M : Nat) (h : Hc) (b : Nat → Int) (L : Nat) (v : Int) (w : Nat → Int) (R : Nat ⊕ (Nat × (Nat → Int))) : Prop := (v = 1 ∧ ∃ k w', R = .inr (k, w') ∧ StM M h b L k ∧ h (M + 1) = w' ∧ WF w') ∨ (v = 0 ∧ ∃ f, R = .inl f ∧ WrM M h b L f ∧ h (M + 1) = w)
theorem LnM.b {M : Nat} {h : Hc} {b : Nat → Int} {L : Nat} {v : Int} {w : Nat → Int} {R : Nat ⊕ (Nat × (Nat → Int))} (q : LnM M h b L v w R) : v = 0 ∨ v = 1 := q.elim (fun x => Or.inr x.1) (fun x => Or.inl x.1)
theorem NuM.y {M : Nat} {h : Hc} {b : Nat → Int} {L k : Nat} {lo hi v : Int} (q : NuM M h b L k lo hi v) (hv : v ≠ -1) : (lo ≤ thT b L k ∧ thT b L k ≤ hi) ∧ v = thT b L k ∧ StM M h b L (k + 1) := by
  obtain ⟨_, q | q⟩ := q
  · exact q
  · exact absurd q.2 hv
theorem NuM.n {M : Nat} {h : Hc} {b : Nat → Int} {L k : Nat} {lo hi v : Int} (q : NuM M h b L k lo hi v) (hv : v < 0) (hlo : 0 ≤ lo) : ¬ (lo ≤ thT b L k ∧ thT b L k ≤ hi) ∧ WrM M h b L k := by
  obtain ⟨q0, q | q⟩ := q
  · omega
  · exact ⟨q.1, q0⟩
set_option maxHeartbeats 400000 in
theorem C_X12_readNumber {d : Nat} {g : Gs} {h : Hc} {P : Po} {M : Nat} {w : Nat → Int} (hG : MdG g M) (hW : h (M + 1) = w) {b : Nat → Int} {L k : Nat} (hT : StM M h b L k) {i : Nat} (hi9 : i < 2214) {lo hi : Int} (hlo : 0 ≤ lo) (hhi : hi ≤ 999) (K : ∀ h' (v : Int), MvX M h h' → (v = 1 ∧ (lo ≤ thT b L k ∧ thT b L k ≤ hi) ∧ StM M h' b L (k + 1) ∧ h' (M + 1) = updW w i (thT b L k)) ∨ (v = 0 ∧ ¬ (lo ≤ thT b L k ∧ thT b L k ≤ hi) ∧ WrM M h' b L k ∧ h' (M + 1) = w) → P (.inl (some (vI v))) g h') : Call (d + 3) 0 0 mX12_readNumber [vR M, vI ((i : Nat) : Int), vI lo, vI hi] g h P := by
  refine Call_of rfl ⟨by decide +kernel, rfl⟩ (Nat.le_of_ble_eq_true rfl) rfl ?_
  refine aL0 dX12_readNumber_0 ?_
  refine iL2 dX12_readNumber_1 ?_
  refine iL3 dX12_readNumber_2 ?_
  refine invV2 rfl dX12_readNumber_3 kX12_141 hG.o (Nat.le_of_ble_eq_true rfl) (Nat.zero_le _) (Nat.zero_le _) (C_X12_number hG hT hlo hhi (fun h1 v1 m1 q1 => konI ?_))
  have hW1 := m1.w hW
  have hv1 : v1 = -1 ∨ 0 ≤ v1 := by rcases q1.2 with q | q <;> omega
  refine iS4 dX12_readNumber_6 ?_
  refine aL0 dX12_readNumber_8 ?_
  refine R_getR dX12_readNumber_9 fX12_13.r hG.o rfl ?_
  refine iL1 dX12_readNumber_12 ?_
  suffices J5 : Run (d + 3) 0 0 mX12_readNumber 29 [vR M, vI ((i : Nat) : Int), vI lo, vI hi, vI v1] [vI ((if 0 ≤ v1 then v1 else w i)), vI ((i : Nat) : Int), vR (M + 1)] g h1 P by
    refine iL4 dX12_readNumber_13 ?_
    refine R_if_ge dX12_readNumber_15 (fun hb15 => ?_) (fun hb15 => ?_)
    · refine iL4 dX12_readNumber_27 ?_
      exact topV (v := (if 0 ≤ v1 then v1 else w i)) (by first | (rw [if_pos (show 0 ≤ v1 by omega)]; done) | (rw [if_neg (show ¬ 0 ≤ v1 by omega)]; exact congrFun hW1 i)) J5
    · refine aL0 dX12_readNumber_18 ?_
      refine R_getR dX12_readNumber_19 fX12_13.r hG.o rfl ?_
      refine iL1 dX12_readNumber_22 ?_
      refine ialdN dX12_readNumber_23 hG.a1 rfl (by omega) ?_
      refine R_goto dX12_readNumber_24 ?_
      exact topV (v := (if 0 ≤ v1 then v1 else w i)) (by first | (rw [if_pos (show 0 ≤ v1 by omega)]; done) | (rw [if_neg (show ¬ 0 ≤ v1 by omega)]; exact congrFun hW1 i)) J5
  refine iastN dX12_readNumber_29 hG.a1 rfl (by omega) ?_
  refine storH (fun h6 e6 => ?_)
  have hW6 : h6 (M + 1) = (updW w i ((if 0 ≤ v1 then v1 else w i))) := by rw [e6]; exact hW_up hW1
  refine iL4 dX12_readNumber_30 ?_
  refine R_if_lt dX12_readNumber_32 (fun hb32 => ?_) (fun hb32 => ?_)
  · refine R_iconst_0 dX12_readNumber_39 ?_
    exact R_zret dX12_readNumber_40 rfl (by decide) (K _ _ (by rw [e6]; exact m1.x.up) (Or.inr ⟨rfl, (q1.n (by omega) hlo).1, by show h6 M 12 = _; rw [e6, updH_a (by omega)]; exact (q1.n (by omega) hlo).2, by rw [hW6, if_neg (by omega)]; exact updW_same rfl⟩))
  · refine R_iconst_1 dX12_readNumber_35 ?_
    refine R_goto dX12_readNumber_36 ?_
    exact R_zret dX12_readNumber_40 rfl (by decide) (K _ _ (by rw [e6]; exact m1.x.up) (Or.inl ⟨rfl, (q1.y (by omega)).1, by rw [e6]; exact (q1.y (by omega)).2.2.wd, by rw [hW6, if_pos (by omega), (q1.y (by omega)).2.1]⟩))
set_option maxHeartbeats 400000 in
theorem C_X12_readInn {d : Nat} {g : Gs} {h : Hc} {P : Po} {M : Nat} {w : Nat → Int} (hG : MdG g M) (hW : h (M + 1) = w) (hf : WF w) {b : Nat → Int} {L k : Nat} (hT : StM M h b L (k + 1)) (K : ∀ h' (v : Int), MvX M h h' → LnM M h' b L v w (rdN (thT b L) (k + 1) 0 11 fun n k => rdN (thT b L) k 0 100 fun c k => .inr (k, updW w (8 + n.toNat) c)) → P (.inl (some (vI v))) g h') : Call (d + 4) 0 0 mX12_readInn [vR M] g h P := by
  have hjd := hf.jud
  have hcs := hf.cas
  refine Call_of rfl ⟨by decide +kernel, rfl⟩ (Nat.le_of_ble_eq_true rfl) rfl ?_
  refine aL0 dX12_readInn_0 ?_
  refine R_iconst_0 dX12_readInn_1 ?_
  refine R_bipush dX12_readInn_2 (by decide) ?_
  refine invV2 rfl dX12_readInn_4 kX12_141 hG.o (Nat.le_of_ble_eq_true rfl) (Nat.zero_le _) (Nat.zero_le _) (C_X12_number hG hT (lo := 0) (hi := 11) (by decide) (by omega) (fun h1 v1 m1 q1 => konI ?_))
  have hW1 := m1.w hW
  refine iS1 dX12_readInn_7 ?_
  refine iL1 dX12_readInn_8 ?_
  refine R_if_lt dX12_readInn_9 (fun hb9 => ?_) (fun hb9 => ?_)
  · obtain ⟨f1, w1, r1⟩ := q1.ok.no (by omega)
    refine R_iconst_0 dX12_readInn_30 ?_
    exact R_zret dX12_readInn_31 rfl (by decide) (K _ _ m1.x (Or.inr ⟨rfl, _, r1 _ _, w1, hW1⟩))
  · obtain ⟨b1, k1, T1, r1⟩ := q1.ok.yes (by omega)
    obtain ⟨n1, e1⟩ : ∃ i : Nat, v1 = (i : Int) := ⟨v1.toNat, by omega⟩
    subst e1
    refine aL0 dX12_readInn_12 ?_
    refine R_bipush dX12_readInn_13 (by decide) ?_
    refine iL1 dX12_readInn_15 ?_
    refine addV dX12_readInn_16 (v := (((8 + n1) : Nat) : Int)) (by rw [wid (by omega) (by omega)]; omega) ?_
    refine R_iconst_0 dX12_readInn_17 ?_
    refine R_bipush dX12_readInn_18 (by decide) ?_
    refine invV3 rfl dX12_readInn_20 kX12_172 hG.o (Nat.le_of_ble_eq_true rfl) (Nat.zero_le _) (Nat.zero_le _) (C_X12_readNumber hG hW1 T1 (i := (8 + n1)) (by omega) (lo := 0) (hi := 100) (by decide) (by omega) (fun h2 v2 m2 q2 => konI ?_))
    refine R_if_eq dX12_readInn_23 (fun hb23 => ?_) (fun hb23 => ?_)
    · rcases q2 with ⟨a2, c2, T2, u2⟩ | ⟨a2, c2, w2, u2⟩
      · exfalso; omega
      refine R_iconst_0 dX12_readInn_30 ?_
      exact R_zret dX12_readInn_31 rfl (by decide) (K _ _ (m1.x.tr m2) (Or.inr ⟨rfl, _, (r1 _ _).trans (rdN_n c2), w2, u2⟩))
    · rcases q2 with ⟨a2, c2, T2, u2⟩ | ⟨a2, c2, w2, u2⟩
      rotate_left
      · exfalso; omega
      refine R_iconst_1 dX12_readInn_26 ?_
      refine R_goto dX12_readInn_27 ?_
      exact R_zret dX12_readInn_31 rfl (by decide) (K _ _ (m1.x.tr m2) (Or.inl ⟨rfl, _, _, (r1 _ _).trans (rdN_y c2.1 c2.2), T2, by rw [u2, Int.sub_zero]; rfl, hf.uin (by omega) (by omega)⟩))
set_option maxHeartbeats 400000 in
theorem C_X12_readList {d : Nat} {g : Gs} {h : Hc} {P : Po} {M : Nat} {w : Nat → Int} (hG : MdG g M) (hW : h (M + 1) = w) (hf : WF w) {b : Nat → Int} {L k : Nat} (hT : StM M h b L (k + 1)) (K : ∀ h' (v : Int), MvX M h h' → LnM M h' b L v w (rdN (thT b L) (k + 1) 0 (w 0 - 1) fun j k => rdN (thT b L) k 0 11 fun n k => if 0 ≤ thT b L k ∧ thT b L k < w 1 ∧ placeOf w (thT b L k) < 0 then .inr (k + 1, plW w j n (thT b L k)) else .inl k) → P (.inl (some (vI v))) g h') : Call (d + 3) 0 0 mX12_readList [vR M] g h P := by
  have hjd := hf.jud
  have hcs := hf.cas
  refine Call_of rfl ⟨by decide +kernel, rfl⟩ (Nat.le_of_ble_eq_true rfl) rfl ?_
  refine aL0 dX12_readList_0 ?_
  refine R_iconst_0 dX12_readList_1 ?_
  refine aL0 dX12_readList_2 ?_
  refine invV0 rfl dX12_readList_3 kX12_98 hG.o (Nat.le_of_ble_eq_true rfl) (Nat.zero_le _) (Nat.zero_le _) (C_X12_judges hG hW hf (konI ?_))
  refine R_iconst_1 dX12_readList_6 ?_
  refine subV dX12_readList_7 (wid (by omega) (by omega)) ?_
  refine invV2 rfl dX12_readList_8 kX12_141 hG.o (Nat.le_of_ble_eq_true rfl) (Nat.zero_le _) (Nat.zero_le _) (C_X12_number hG hT (lo := 0) (hi := (w 0) - 1) (by decide) (by omega) (fun h1 v1 m1 q1 => konI ?_))
  have hW1 := m1.w hW
  refine iS1 dX12_readList_11 ?_
  refine iL1 dX12_readList_12 ?_
  refine R_if_ge dX12_readList_13 (fun hb13 => ?_) (fun hb13 => ?_)
  · obtain ⟨b1, k1, T1, r1⟩ := q1.ok.yes (by omega)
    obtain ⟨n1, e1⟩ : ∃ i : Nat, v1 = (i : Int) := ⟨v1.toNat, by omega⟩
    subst e1
    refine aL0 dX12_readList_20 ?_
    refine R_iconst_0 dX12_readList_21 ?_
    refine R_bipush dX12_readList_22 (by decide) ?_
    refine invV2 rfl dX12_readList_24 kX12_141 hG.o (Nat.le_of_ble_eq_true rfl) (Nat.zero_le _) (Nat.zero_le _) (C_X12_number hG T1 (lo := 0) (hi := 11) (by decide) (by omega) (fun h2 v2 m2 q2 => konI ?_))
    have hW2 := m2.w hW1
    refine iS2 dX12_readList_27 ?_
    refine iL2 dX12_readList_28 ?_
    refine R_if_ge dX12_readList_29 (fun hb29 => ?_) (fun hb29 => ?_)
    · obtain ⟨b2, k2, T2, r2⟩ := q2.ok.yes (by omega)
      obtain ⟨n2, e2⟩ : ∃ i : Nat, v2 = (i : Int) := ⟨v2.toNat, by omega⟩
      subst e2
      refine aL0 dX12_readList_36 ?_
      refine R_iconst_0 dX12_readList_37 ?_
      refine aL0 dX12_readList_38 ?_
      refine invV0 rfl dX12_readList_39 kX12_90 hG.o (Nat.le_of_ble_eq_true rfl) (Nat.zero_le _) (Nat.zero_le _) (C_X12_cases hG hW2 hf (konI ?_))
      refine R_iconst_1 dX12_readList_42 ?_
      refine subV dX12_readList_43 (wid (by omega) (by omega)) ?_
      refine invV2 rfl dX12_readList_44 kX12_141 hG.o (Nat.le_of_ble_eq_true rfl) (Nat.zero_le _) (Nat.zero_le _) (C_X12_number hG T2 (lo := 0) (hi := (w 1) - 1) (by decide) (by omega) (fun h3 v3 m3 q3 => konI ?_))
      have hW3 := m3.w hW2
      refine iS3 dX12_readList_47 ?_
      refine iL3 dX12_readList_48 ?_
      refine R_if_lt dX12_readList_49 (fun hb49 => ?_) (fun hb49 => ?_)
      · obtain ⟨c3, w3⟩ := q3.n (by omega) (by decide)
        refine R_iconst_0 dX12_readList_61 ?_
        exact R_zret dX12_readList_62 rfl (by decide) (K _ _ ((m1.x.tr m2.x).tr m3.x) (Or.inr ⟨rfl, _, (r1 _ _).trans ((r2 _ _).trans (if_neg (by omega))), w3, hW3⟩))
      · obtain ⟨c3, d3, T3⟩ := q3.y (by omega)
        subst d3
        refine aL0 dX12_readList_52 ?_
        refine iL3 dX12_readList_53 ?_
        refine invV1 rfl dX12_readList_54 kX12_94 hG.o (Nat.le_of_ble_eq_true rfl) (Nat.zero_le _) (Nat.zero_le _) (C_X12_placeOf hG hW3 hf (by omega) (konI ?_))
        have hpr := placeOf_rng (w := w) (x := thT b L k2)
        refine R_iconst_m1 dX12_readList_57 ?_
        refine R_icmp_eq dX12_readList_58 (fun hb58 => ?_) (fun hb58 => ?_)
        · refine aL0 dX12_readList_63 ?_
          refine R_getR dX12_readList_64 fX12_13.r hG.o rfl ?_
          refine iL1 dX12_readList_67 ?_
          refine iL2 dX12_readList_68 ?_
          refine invS2 rfl dX12_readList_69 kX12_163 (Nat.le_of_ble_eq_true rfl) (Nat.zero_le _) (Nat.zero_le _) (C_X12_listAt (i := (20 + (12 * n1 + n2))) (by omega) (by omega) (konI ?_))
          refine iL3 dX12_readList_72 ?_
          refine iastN dX12_readList_73 hG.a1 rfl (by omega) ?_
          refine storH (fun h4 e4 => ?_)
          have hW4 : h4 (M + 1) = (updW w (20 + (12 * n1 + n2)) (thT b L k2)) := by rw [e4]; exact hW_up hW3
          refine R_iconst_1 dX12_readList_74 ?_
          exact R_zret dX12_readList_75 rfl (by decide) (K _ _ (by rw [e4]; exact MvX.up ((m1.x.tr m2.x).tr m3.x)) (Or.inl ⟨rfl, _, _, (r1 _ _).trans ((r2 _ _).trans (if_pos ⟨by omega, by omega, by omega⟩)), by rw [e4]; exact T3.wd, by rw [hW4]; rfl, hf.upl (by omega) (Or.inr ⟨by omega, pla_no (by omega), by omega⟩)⟩))
        · refine R_iconst_0 dX12_readList_61 ?_
          exact R_zret dX12_readList_62 rfl (by decide) (K _ _ ((m1.x.tr m2.x).tr m3.x) (Or.inr ⟨rfl, _, (r1 _ _).trans ((r2 _ _).trans (if_neg (by omega))), q3.1, hW3⟩))
    · obtain ⟨f2, w2, r2⟩ := q2.ok.no (by omega)
      refine R_iconst_m1 dX12_readList_32 ?_
      refine R_goto dX12_readList_33 ?_
      refine iS3 dX12_readList_47 ?_
      refine iL3 dX12_readList_48 ?_
      refine R_if_lt dX12_readList_49 (fun _ => ?_) (fun hb => absurd hb (by decide))
      refine R_iconst_0 dX12_readList_61 ?_
      exact R_zret dX12_readList_62 rfl (by decide) (K _ _ (m1.x.tr m2.x) (Or.inr ⟨rfl, _, (r1 _ _).trans (r2 _ _), w2, hW2⟩))
  · obtain ⟨f1, w1, r1⟩ := q1.ok.no (by omega)
    refine R_iconst_m1 dX12_readList_16 ?_
    refine R_goto dX12_readList_17 ?_
    refine iS2 dX12_readList_27 ?_
    refine iL2 dX12_readList_28 ?_
    refine R_if_ge dX12_readList_29 (fun hb => absurd hb (by decide)) (fun _ => ?_)
    refine R_iconst_m1 dX12_readList_32 ?_
    refine R_goto dX12_readList_33 ?_
    refine iS3 dX12_readList_47 ?_
    refine iL3 dX12_readList_48 ?_
    refine R_if_lt dX12_readList_49 (fun _ => ?_) (fun hb => absurd hb (by decide))
    refine R_iconst_0 dX12_readList_61 ?_
    exact R_zret dX12_readList_62 rfl (by decide) (K _ _ m1.x (Or.inr ⟨rfl, _, r1 _ _, w1, hW1⟩))
theorem jd_eq {w : Nat → Int} {j : Nat} (hj : w 0 = (j : Int)) {u m n y : Int} : updW (updW (updW (updW (updW w (80 + 4 * j) u) (81 + 4 * j) m) (82 + 4 * j) n) (83 + 4 * j) y) 0 (w 0 + 1) = jdW w m n u y := by
  have e : (w 0).toNat = j := by omega
  funext i
  unfold jdW
  rw [e]
  by_cases h0 : i = 0
  · rw [if_pos h0, h0, updW_s]
  rw [if_neg h0, updW_n h0]
  by_cases h1 : i = 80 + 4 * j
  · rw [if_pos h1, updW_n (by omega), updW_n (by omega), updW_n (by omega), h1, updW_s]
  rw [if_neg h1]
  by_cases h2 : i = 81 + 4 * j
  · rw [if_pos h2, updW_n (by omega), updW_n (by omega), h2, updW_s]
  rw [if_neg h2]
  by_cases h3 : i = 82 + 4 * j
  · rw [if_pos h3, updW_n (by omega), h3, updW_s]
  rw [if_neg h3]
  by_cases h4 : i = 83 + 4 * j
  · rw [if_pos h4, h4, updW_s]
  rw [if_neg h4, updW_n h4, updW_n h3, updW_n h2, updW_n h1]
theorem cs_eq {w : Nat → Int} {j : Nat} (hj : w 1 = (j : Int)) {k a o l : Int} : updW (updW (updW (updW (updW (updW (updW (updW w (100 + 7 * j) k) (101 + 7 * j) a) (102 + 7 * j) o) (103 + 7 * j) l) (104 + 7 * j) 0) (105 + 7 * j) (-1)) (106 + 7 * j) (-1)) 1 (w 1 + 1) = csW w k a o l := by
  have e : (w 1).toNat = j := by omega
  funext i
  unfold csW
  rw [e]
  by_cases h0 : i = 1
  · rw [if_pos h0, h0, updW_s]
  rw [if_neg h0, updW_n h0]
  by_cases h1 : i = 100 + 7 * j
  · rw [if_pos h1, updW_n (by omega), updW_n (by omega), updW_n (by omega), updW_n (by omega), updW_n (by omega), updW_n (by omega), h1, updW_s]
  rw [if_neg h1]
  by_cases h2 : i = 101 + 7 * j
  · rw [if_pos h2, updW_n (by omega), updW_n (by omega), updW_n (by omega), updW_n (by omega), updW_n (by omega), h2, updW_s]
  rw [if_neg h2]
  by_cases h3 : i = 102 + 7 * j
  · rw [if_pos h3, updW_n (by omega), updW_n (by omega), updW_n (by omega), updW_n (by omega), h3, updW_s]
  rw [if_neg h3]
  by_cases h4 : i = 103 + 7 * j
  · rw [if_pos h4, updW_n (by omega), updW_n (by omega), updW_n (by omega), h4, updW_s]
  rw [if_neg h4]
  by_cases h5 : i = 104 + 7 * j
  · rw [if_pos h5, updW_n (by omega), updW_n (by omega), h5, updW_s]
  rw [if_neg h5]
  by_cases h6 : i = 105 + 7 * j
  · rw [if_pos h6, updW_n (by omega), h6, updW_s]
  rw [if_neg h6]
  by_cases h7 : i = 106 + 7 * j
  · rw [if_pos h7, h7, updW_s]
  rw [if_neg h7, updW_n h7, updW_n h6, updW_n h5, updW_n h4, updW_n h3, updW_n h2, updW_n h1]
theorem ls_let {b : Nat → Int} {L s : Nat} (h : lsT b L s = s + 1) (hs : s ≤ L) : s < L ∧ 97 ≤ b s ∧ b s ≤ 122 := by
  have h1 : s < L := by
    refine Nat.lt_of_le_of_ne hs fun e => ?_
    unfold lsT at h
    rw [skL_ge (by omega)] at h
    omega
  have hl : isLB (b s) = true := by
    cases e : isLB (b s) with
    | true => rfl
    | false =>
      unfold lsT at h
      rw [skL_f (q := fun i => isLB (b i)) e] at h
      omega
  exact ⟨h1, isLB_t.mp hl⟩
theorem LnM.num {M : Nat} {h : Hc} {b : Nat → Int} {L k i : Nat} {v hi : Int} {w : Nat → Int} (q : (v = 1 ∧ (0 ≤ thT b L k ∧ thT b L k ≤ hi) ∧ StM M h b L (k + 1) ∧ h (M + 1) = updW w i (thT b L k)) ∨ (v = 0 ∧ ¬ (0 ≤ thT b L k ∧ thT b L k ≤ hi) ∧ WrM M h b L k ∧ h (M + 1) = w)) (hf : (0 ≤ thT b L k ∧ thT b L k ≤ hi) → WF (updW w i (thT b L k))) : LnM M h b L v w (rdN (thT b L) k 0 hi fun n k => .inr (k, updW w i n)) := by
  rcases q with ⟨a1, d1, T1, u1⟩ | ⟨a1, d1, w1, u1⟩
  · exact Or.inl ⟨a1, _, _, rdN_y d1.1 d1.2, T1, by rw [u1, Int.sub_zero], by rw [Int.sub_zero]; exact hf d1⟩
  · exact Or.inr ⟨a1, _, rdN_n d1, w1, u1⟩
theorem LnM.of {M : Nat} {h : Hc} {b : Nat → Int} {L : Nat} {v : Int} {w : Nat → Int} {R R' : Nat ⊕ (Nat × (Nat → Int))} (q : LnM M h b L v w R) (e : R' = R) : LnM M h b L v w R' := by rw [e]; exact q
set_option maxHeartbeats 1000000 in
theorem C_X12_readJudge {d : Nat} {g : Gs} {h : Hc} {P : Po} {M : Nat} {w : Nat → Int} (hG : MdG g M) (hW : h (M + 1) = w) (hf : WF w) {b : Nat → Int} {L k : Nat} (hL : LeM M h b L k) (h1 : thT b L k = 1000) (K : ∀ h' (v : Int), MvX M h h' → LnM M h' b L v w (if 5 ≤ w 0 then .inl k else rdW (thT b L) (k + 1) 1010 fun k => rdN (thT b L) k 0 99 fun m k => rdW (thT b L) k 1002 fun k => rdN (thT b L) k 0 9 fun n k => rdM (thT b L) k 1001 99 0 fun u k => rdM (thT b L) k 1011 99 0 fun y k => .inr (k, jdW w m n u y)) → P (.inl (some (vI v))) g h') : Call (d + 7) 0 0 mX12_readJudge [vR M] g h P := by
  have hjd := hf.jud
  have hcs := hf.cas
  obtain ⟨j, hj⟩ : ∃ j : Nat, w 0 = (j : Int) := ⟨(w 0).toNat, by omega⟩
  refine Call_of rfl ⟨by decide +kernel, rfl⟩ (Nat.le_of_ble_eq_true rfl) rfl ?_
  refine aL0 dX12_readJudge_0 ?_
  refine invV0 rfl dX12_readJudge_1 kX12_98 hG.o (Nat.le_of_ble_eq_true rfl) (Nat.zero_le _) (Nat.zero_le _) (C_X12_judges hG hW hf (konI ?_))
  refine topV (v := ((j : Nat) : Int)) (hj) ?_
  refine iS1 dX12_readJudge_4 ?_
  refine iL1 dX12_readJudge_5 ?_
  refine R_iconst_5 dX12_readJudge_6 ?_
  refine R_icmp_ne dX12_readJudge_7 (fun hb7 => ?_) (fun hb7 => ?_)
  · refine aL0 dX12_readJudge_12 ?_
    refine R_ldcS (i := 1) dX12_readJudge_13 rfl ?_
    refine R_iconst_0 dX12_readJudge_15 ?_
    refine R_bipush dX12_readJudge_16 (by decide) ?_
    refine invV3 rfl dX12_readJudge_18 kX12_150 hG.o (Nat.le_of_ble_eq_true rfl) (Nat.zero_le _) (Nat.zero_le _) (C_X12_behind hG (hL.st (by omega) (by omega)) 1 10 (by decide) (by decide) sw_1 (z := 99) (by omega) (fun h1 v1 m1 q1 => konI ?_))
    have hW1 := m1.w hW
    refine iS2 dX12_readJudge_21 ?_
    refine iL2 dX12_readJudge_22 ?_
    refine R_if_ge dX12_readJudge_23 (fun hb23 => ?_) (fun hb23 => ?_)
    · obtain ⟨b1, k1, T1, r1⟩ := q1.yes (by omega)
      refine aL0 dX12_readJudge_30 ?_
      refine R_ldcS (i := 2) dX12_readJudge_31 rfl ?_
      refine R_iconst_0 dX12_readJudge_33 ?_
      refine R_bipush dX12_readJudge_34 (by decide) ?_
      refine invV3 rfl dX12_readJudge_36 kX12_150 hG.o (Nat.le_of_ble_eq_true rfl) (Nat.zero_le _) (Nat.zero_le _) (C_X12_behind hG T1 2 2 (by decide) (by decide) sw_2 (z := 9) (by omega) (fun h2 v2 m2 q2 => konI ?_))
      have hW2 := m2.w hW1
      refine iS3 dX12_readJudge_39 ?_
      refine iL3 dX12_readJudge_40 ?_
      refine R_if_ge dX12_readJudge_41 (fun hb41 => ?_) (fun hb41 => ?_)
      · obtain ⟨b2, k2, T2, r2⟩ := q2.yes (by omega)
        refine aL0 dX12_readJudge_46 ?_
        refine R_ldcS (i := 3) dX12_readJudge_47 rfl ?_
        refine R_bipush dX12_readJudge_49 (by decide) ?_
        refine R_iconst_0 dX12_readJudge_51 ?_
        refine invV3 rfl dX12_readJudge_52 kX12_158 hG.o (Nat.le_of_ble_eq_true rfl) (Nat.zero_le _) (Nat.zero_le _) (C_X12_told hG T2 3 1 (by decide) (by decide) sw_3 (z := 99) (y := 0) (l := 0) (m := 99) (by omega) (by omega) (fun h3 v3 m3 q3 => konI ?_))
        have hW3 := m3.w hW2
        refine iS4 dX12_readJudge_55 ?_
        refine iL4 dX12_readJudge_57 ?_
        refine R_ldcI dX12_readJudge_59 qX12_147 (by decide) ?_
        refine R_icmp_ne dX12_readJudge_61 (fun hb61 => ?_) (fun hb61 => ?_)
        · obtain ⟨b3, k3, T3, r3⟩ := q3.yes (by omega)
          refine aL0 dX12_readJudge_69 ?_
          refine R_ldcS (i := 4) dX12_readJudge_70 rfl ?_
          refine R_bipush dX12_readJudge_72 (by decide) ?_
          refine R_iconst_0 dX12_readJudge_74 ?_
          refine invV3 rfl dX12_readJudge_75 kX12_158 hG.o (Nat.le_of_ble_eq_true rfl) (Nat.zero_le _) (Nat.zero_le _) (C_X12_told hG T3 4 11 (by decide) (by decide) sw_4 (z := 99) (y := 0) (l := 0) (m := 99) (by omega) (by omega) (fun h4 v4 m4 q4 => konI ?_))
          have hW4 := m4.w hW3
          refine iS5 dX12_readJudge_78 ?_
          refine iL5 dX12_readJudge_80 ?_
          refine R_ldcI dX12_readJudge_82 qX12_147 (by decide) ?_
          refine R_icmp_ne dX12_readJudge_84 (fun hb84 => ?_) (fun hb84 => ?_)
          · obtain ⟨b4, k4, T4, r4⟩ := q4.yes (by omega)
            refine aL0 dX12_readJudge_89 ?_
            refine R_getR dX12_readJudge_90 fX12_13.r hG.o rfl ?_
            refine iL1 dX12_readJudge_93 ?_
            refine R_iconst_0 dX12_readJudge_94 ?_
            refine invS2 rfl dX12_readJudge_95 kX12_80 (Nat.le_of_ble_eq_true rfl) (Nat.zero_le _) (Nat.zero_le _) (C_X12_judgeAt (b := 0) (i := (80 + 4 * j)) (by omega) (by omega) (konI ?_))
            refine iL4 dX12_readJudge_98 ?_
            refine iastN dX12_readJudge_100 hG.a1 rfl (by omega) ?_
            refine storH (fun h5 e5 => ?_)
            have hW5 : h5 (M + 1) = (updW w (80 + 4 * j) v3) := by rw [e5]; exact hW_up hW4
            refine aL0 dX12_readJudge_101 ?_
            refine R_getR dX12_readJudge_102 fX12_13.r hG.o rfl ?_
            refine iL1 dX12_readJudge_105 ?_
            refine R_iconst_1 dX12_readJudge_106 ?_
            refine invS2 rfl dX12_readJudge_107 kX12_80 (Nat.le_of_ble_eq_true rfl) (Nat.zero_le _) (Nat.zero_le _) (C_X12_judgeAt (b := 1) (i := (81 + 4 * j)) (by omega) (by omega) (konI ?_))
            refine iL2 dX12_readJudge_110 ?_
            refine iastN dX12_readJudge_111 hG.a1 rfl (by omega) ?_
            refine storH (fun h6 e6 => ?_)
            have hW6 : h6 (M + 1) = (updW (updW w (80 + 4 * j) v3) (81 + 4 * j) v1) := by rw [e6]; exact hW_up hW5
            refine aL0 dX12_readJudge_112 ?_
            refine R_getR dX12_readJudge_113 fX12_13.r hG.o rfl ?_
            refine iL1 dX12_readJudge_116 ?_
            refine R_iconst_2 dX12_readJudge_117 ?_
            refine invS2 rfl dX12_readJudge_118 kX12_80 (Nat.le_of_ble_eq_true rfl) (Nat.zero_le _) (Nat.zero_le _) (C_X12_judgeAt (b := 2) (i := (82 + 4 * j)) (by omega) (by omega) (konI ?_))
            refine iL3 dX12_readJudge_121 ?_
            refine iastN dX12_readJudge_122 hG.a1 rfl (by omega) ?_
            refine storH (fun h7 e7 => ?_)
            have hW7 : h7 (M + 1) = (updW (updW (updW w (80 + 4 * j) v3) (81 + 4 * j) v1) (82 + 4 * j) v2) := by rw [e7]; exact hW_up hW6
            refine aL0 dX12_readJudge_123 ?_
            refine R_getR dX12_readJudge_124 fX12_13.r hG.o rfl ?_
            refine iL1 dX12_readJudge_127 ?_
            refine R_iconst_3 dX12_readJudge_128 ?_
            refine invS2 rfl dX12_readJudge_129 kX12_80 (Nat.le_of_ble_eq_true rfl) (Nat.zero_le _) (Nat.zero_le _) (C_X12_judgeAt (b := 3) (i := (83 + 4 * j)) (by omega) (by omega) (konI ?_))
            refine iL5 dX12_readJudge_132 ?_
            refine iastN dX12_readJudge_134 hG.a1 rfl (by omega) ?_
            refine storH (fun h8 e8 => ?_)
            have hW8 : h8 (M + 1) = (updW (updW (updW (updW w (80 + 4 * j) v3) (81 + 4 * j) v1) (82 + 4 * j) v2) (83 + 4 * j) v4) := by rw [e8]; exact hW_up hW7
            refine R_iconst_0 dX12_readJudge_135 ?_
            refine iS6 dX12_readJudge_136 ?_
            have hmv4 : MvX M h h8 := by rw [e8, e7, e6, e5]; exact ((((((m1.x.tr m2.x).tr m3.x).tr m4.x).up).up).up).up
            have hst4 : StM M h8 b L k4 := by rw [e8, e7, e6, e5]; exact (((T4.wd).wd).wd).wd
            refine loopN 12 (fun q => ∀ hh : Hc, MvX M h hh → StM M hh b L k4 → hh (M + 1) = (updW (updW (updW (updW w (80 + 4 * j) v3) (81 + 4 * j) v1) (82 + 4 * j) v2) (83 + 4 * j) v4) → Run (d + 7) 0 0 mX12_readJudge 138 [vR M, vI ((j : Nat) : Int), vI v1, vI v2, vI v3, vI v4, vI ((q : Nat) : Int)] [] g hh P) (fun q hcq ihq hh hm hT2 hW9 => ?_) 0 (Nat.zero_le _) h8 hmv4 hst4 hW8
            refine iL6 dX12_readJudge_138 ?_
            refine R_bipush dX12_readJudge_140 (by decide) ?_
            refine R_icmp_ge dX12_readJudge_142 (fun hb142 => ?_) (fun hb142 => ?_)
            · refine aL0 dX12_readJudge_163 ?_
              refine R_getR dX12_readJudge_164 fX12_13.r hG.o rfl ?_
              refine R_iconst_0 dX12_readJudge_167 ?_
              refine dup2IR dX12_readJudge_168 ?_
              refine ialdN (k := 0) dX12_readJudge_169 hG.a1 rfl (by decide) ?_
              refine topV (v := w 0) ((congrFun hW9 _).trans (by rw [updW_n (by omega), updW_n (by omega), updW_n (by omega), updW_n (by omega)])) ?_
              refine R_iconst_1 dX12_readJudge_170 ?_
              refine addV dX12_readJudge_171 (wid (by omega) (by omega)) ?_
              refine iastN (k := 0) dX12_readJudge_172 hG.a1 rfl (by decide) ?_
              refine storH (fun h9 e9 => ?_)
              have hW9 : h9 (M + 1) = (updW (updW (updW (updW (updW w (80 + 4 * j) v3) (81 + 4 * j) v1) (82 + 4 * j) v2) (83 + 4 * j) v4) 0 ((w 0) + 1)) := by rw [e9]; exact hW_up hW9
              refine R_iconst_1 dX12_readJudge_173 ?_
              exact R_zret dX12_readJudge_174 rfl (by decide) (K _ _ (by rw [e9]; exact hm.up) (Or.inl ⟨rfl, _, _, (if_neg (by omega)).trans ((r1 _ _).trans ((r2 _ _).trans ((r3 _ _).trans (r4 _ _)))), by rw [e9]; exact hT2.wd, by rw [hW9]; exact jd_eq hj, hf.jd (by omega) (by omega) (by omega) (by omega) (by omega)⟩))
            · refine aL0 dX12_readJudge_145 ?_
              refine R_getR dX12_readJudge_146 fX12_13.r hG.o rfl ?_
              refine iL1 dX12_readJudge_149 ?_
              refine iL6 dX12_readJudge_150 ?_
              refine invS2 rfl dX12_readJudge_152 kX12_163 (Nat.le_of_ble_eq_true rfl) (Nat.zero_le _) (Nat.zero_le _) (C_X12_listAt (i := (20 + (12 * j + q))) (by omega) (by omega) (konI ?_))
              refine R_iconst_m1 dX12_readJudge_155 ?_
              refine iastN dX12_readJudge_156 hG.a1 rfl (by omega) ?_
              refine storH (fun h10 e10 => ?_)
              have hW10 : h10 (M + 1) = (updW (updW (updW (updW (updW w (80 + 4 * j) v3) (81 + 4 * j) v1) (82 + 4 * j) v2) (83 + 4 * j) v4) (20 + (12 * j + q)) (-1)) := by rw [e10]; exact hW_up hW9
              refine iInc6 dX12_readJudge_157 (winc (by omega)) ?_
              refine R_goto dX12_readJudge_160 ?_
              exact ihq (by omega) _ (by rw [e10]; exact hm.up) (by rw [e10]; exact hT2.wd) (by rw [hW10]; exact updW_same (by rw [updW_n (by omega), updW_n (by omega), updW_n (by omega), updW_n (by omega)]; exact hf.out (12 * j + q) (by omega) (by omega)))
          · obtain ⟨f4, w4, r4⟩ := q4.no (by omega)
            refine R_iconst_0 dX12_readJudge_87 ?_
            exact R_zret dX12_readJudge_88 rfl (by decide) (K _ _ (((m1.x.tr m2.x).tr m3.x).tr m4.x) (Or.inr ⟨rfl, _, (if_neg (by omega)).trans ((r1 _ _).trans ((r2 _ _).trans ((r3 _ _).trans (r4 _ _)))), w4, hW4⟩))
        · obtain ⟨f3, w3, r3⟩ := q3.no (by omega)
          refine R_ldcI dX12_readJudge_64 qX12_147 (by decide) ?_
          refine R_goto dX12_readJudge_66 ?_
          refine iS5 dX12_readJudge_78 ?_
          refine iL5 dX12_readJudge_80 ?_
          refine R_ldcI dX12_readJudge_82 qX12_147 (by decide) ?_
          refine R_icmp_ne dX12_readJudge_84 (fun hb84 => ?_) (fun hb84 => ?_)
          · exact absurd rfl hb84
          · refine R_iconst_0 dX12_readJudge_87 ?_
            exact R_zret dX12_readJudge_88 rfl (by decide) (K _ _ ((m1.x.tr m2.x).tr m3.x) (Or.inr ⟨rfl, _, (if_neg (by omega)).trans ((r1 _ _).trans ((r2 _ _).trans (r3 _ _))), w3, hW3⟩))
      · obtain ⟨f2, w2, r2⟩ := q2.no (by omega)
        refine R_iconst_0 dX12_readJudge_44 ?_
        exact R_zret dX12_readJudge_45 rfl (by decide) (K _ _ (m1.x.tr m2.x) (Or.inr ⟨rfl, _, (if_neg (by omega)).trans ((r1 _ _).trans (r2 _ _)), w2, hW2⟩))
    · obtain ⟨f1, w1, r1⟩ := q1.no (by omega)
      refine R_iconst_m1 dX12_readJudge_26 ?_
      refine R_goto dX12_readJudge_27 ?_
      refine iS3 dX12_readJudge_39 ?_
      refine iL3 dX12_readJudge_40 ?_
      refine R_if_ge dX12_readJudge_41 (fun hb => absurd hb (by decide)) (fun _ => ?_)
      refine R_iconst_0 dX12_readJudge_44 ?_
      exact R_zret dX12_readJudge_45 rfl (by decide) (K _ _ m1.x (Or.inr ⟨rfl, _, (if_neg (by omega)).trans (r1 _ _), w1, hW1⟩))
  · refine R_iconst_0 dX12_readJudge_10 ?_
    exact R_zret dX12_readJudge_11 rfl (by decide) (K _ _ MvX.rf (Or.inr ⟨rfl, _, if_pos (by omega), hL.2.1, hW⟩))
set_option maxHeartbeats 1000000 in
theorem C_X12_readCase {d : Nat} {g : Gs} {h : Hc} {P : Po} {M : Nat} {w : Nat → Int} (hG : MdG g M) (hW : h (M + 1) = w) (hf : WF w) {b : Nat → Int} {L k : Nat} (hL : LeM M h b L k) (h1 : thT b L k = 1012) (K : ∀ h' (v : Int), MvX M h h' → LnM M h' b L v w (if 8 ≤ w 1 then .inl k else rdN (thT b L) (k + 1) 1024 1029 fun kd k => rdW (thT b L) k 1004 fun k => rdN (thT b L) k 0 99 fun a k => rdM (thT b L) k 1005 99 1 fun o k => rdM (thT b L) k 1016 (w 1 - 1) (-1) fun l k => .inr (k, csW w kd a o l)) → P (.inl (some (vI v))) g h') : Call (d + 7) 0 0 mX12_readCase [vR M] g h P := by
  have hjd := hf.jud
  have hcs := hf.cas
  obtain ⟨j, hj⟩ : ∃ j : Nat, w 1 = (j : Int) := ⟨(w 1).toNat, by omega⟩
  refine Call_of rfl ⟨by decide +kernel, rfl⟩ (Nat.le_of_ble_eq_true rfl) rfl ?_
  refine aL0 dX12_readCase_0 ?_
  refine invV0 rfl dX12_readCase_1 kX12_90 hG.o (Nat.le_of_ble_eq_true rfl) (Nat.zero_le _) (Nat.zero_le _) (C_X12_cases hG hW hf (konI ?_))
  refine topV (v := ((j : Nat) : Int)) (hj) ?_
  refine iS1 dX12_readCase_4 ?_
  refine iL1 dX12_readCase_5 ?_
  refine R_bipush dX12_readCase_6 (by decide) ?_
  refine R_icmp_ne dX12_readCase_8 (fun hb8 => ?_) (fun hb8 => ?_)
  · refine aL0 dX12_readCase_13 ?_
    refine invV0 rfl dX12_readCase_14 kX12_134 hG.o (Nat.le_of_ble_eq_true rfl) (Nat.zero_le _) (Nat.zero_le _) (C_letters hG (hL.st (by omega) (by omega)) (fun h1 m1 hL1 => konV ?_))
    have hW1 := m1.w hW
    obtain ⟨s, hs⟩ : ∃ s, stT b L (k + 1) = s := ⟨_, rfl⟩
    obtain ⟨e, he⟩ : ∃ e, lsT b L (stT b L (k + 1)) = e := ⟨_, rfl⟩
    obtain ⟨hT1, hS1, hK1⟩ := id hL1
    rw [he] at hT1
    rw [hs] at hS1
    have hse : s ≤ e := by rw [← hs, ← he]; exact skL_lo _ _ _
    have hel := hT1.2.2.1
    have hl4 := hT1.2.2.2.1
    have hcc := th_c (k := k + 1) hT1.b0
    rw [he, hs] at hcc
    refine aL0 dX12_readCase_17 ?_
    refine R_getI dX12_readCase_18 fX12_109.r hG.o ?_
    refine topV (v := ((e : Nat) : Int)) (hT1.1) ?_
    refine aL0 dX12_readCase_21 ?_
    refine R_getI dX12_readCase_22 fX12_119.r hG.o ?_
    refine topV (v := ((s : Nat) : Int)) (hS1) ?_
    refine subV dX12_readCase_25 (wid (by omega) (by omega)) ?_
    refine R_iconst_1 dX12_readCase_26 ?_
    refine R_icmp_ne dX12_readCase_27 (fun hb27 => ?_) (fun hb27 => ?_)
    · refine R_iconst_0 dX12_readCase_44 ?_
      exact R_zret dX12_readCase_45 rfl (by decide) (K _ _ m1.x (Or.inr ⟨rfl, _, (if_neg (by omega)).trans (rdN_n (fun q9 => by have := hcc.mp q9; omega)), hL1.2.1, hW1⟩))
    · have hlet := ls_let (b := b) (L := L) (s := s) (by rw [← hs, he]; omega) (by omega)
      refine aL0 dX12_readCase_30 ?_
      refine R_getR dX12_readCase_31 fX12_29.r hG.o rfl ?_
      refine aL0 dX12_readCase_34 ?_
      refine R_getI dX12_readCase_35 fX12_119.r hG.o ?_
      refine topV (v := ((s : Nat) : Int)) (hS1) ?_
      refine baldN dX12_readCase_38 hG.a6 rfl (by omega) ?_
      refine topV (v := wrapB (b s)) ((hT1.2.2.2.2 s (by omega)).1) ?_
      have hq2 := wrapB_r (hT1.2.2.2.2 s (by omega)).2
      refine R_bipush dX12_readCase_39 (by decide) ?_
      refine R_icmp_lt dX12_readCase_41 (fun hb41 => ?_) (fun hb41 => ?_)
      · have hkd := hcc.mpr ⟨by omega, by omega⟩
        have hck := th_ck hT1.b0 hkd
        rw [hs] at hck
        refine aL0 dX12_readCase_46 ?_
        refine R_getR dX12_readCase_47 fX12_29.r hG.o rfl ?_
        refine aL0 dX12_readCase_50 ?_
        refine R_getI dX12_readCase_51 fX12_119.r hG.o ?_
        refine topV (v := ((s : Nat) : Int)) (hS1) ?_
        refine baldN dX12_readCase_54 hG.a6 rfl (by omega) ?_
        refine topV (v := wrapB (b s)) ((hT1.2.2.2.2 s (by omega)).1) ?_
        have hq3 := wrapB_r (hT1.2.2.2.2 s (by omega)).2
        refine R_bipush dX12_readCase_55 (by decide) ?_
        refine subV dX12_readCase_57 (wid (by omega) (by omega)) ?_
        refine topV (v := thT b L (k + 1) - 1024) (by omega) ?_
        refine iS2 dX12_readCase_58 ?_
        refine aL0 dX12_readCase_59 ?_
        refine R_ldcS (i := 5) dX12_readCase_60 rfl ?_
        refine R_iconst_0 dX12_readCase_62 ?_
        refine R_bipush dX12_readCase_63 (by decide) ?_
        refine invV3 rfl dX12_readCase_65 kX12_150 hG.o (Nat.le_of_ble_eq_true rfl) (Nat.zero_le _) (Nat.zero_le _) (C_X12_behind hG (hL1.st (by omega) (by omega)) 5 4 (by decide) (by decide) sw_5 (z := 99) (by omega) (fun h4 v4 m4 q4 => konI ?_))
        have hW4 := m4.w hW1
        refine iS3 dX12_readCase_68 ?_
        refine iL3 dX12_readCase_69 ?_
        refine R_if_ge dX12_readCase_70 (fun hb70 => ?_) (fun hb70 => ?_)
        · obtain ⟨b4, k4, T4, r4⟩ := q4.yes (by omega)
          refine aL0 dX12_readCase_75 ?_
          refine R_ldcS (i := 6) dX12_readCase_76 rfl ?_
          refine R_bipush dX12_readCase_78 (by decide) ?_
          refine R_iconst_1 dX12_readCase_80 ?_
          refine invV3 rfl dX12_readCase_81 kX12_158 hG.o (Nat.le_of_ble_eq_true rfl) (Nat.zero_le _) (Nat.zero_le _) (C_X12_told hG T4 6 5 (by decide) (by decide) sw_6 (z := 99) (y := 1) (l := 0) (m := 99) (by omega) (by omega) (fun h5 v5 m5 q5 => konI ?_))
          have hW5 := m5.w hW4
          refine iS4 dX12_readCase_84 ?_
          refine iL4 dX12_readCase_86 ?_
          refine R_ldcI dX12_readCase_88 qX12_147 (by decide) ?_
          refine R_icmp_ne dX12_readCase_90 (fun hb90 => ?_) (fun hb90 => ?_)
          · obtain ⟨b5, k5, T5, r5⟩ := q5.yes (by omega)
            refine aL0 dX12_readCase_98 ?_
            refine R_ldcS (i := 7) dX12_readCase_99 rfl ?_
            refine iL1 dX12_readCase_101 ?_
            refine R_iconst_1 dX12_readCase_102 ?_
            refine subV dX12_readCase_103 (wid (by omega) (by omega)) ?_
            refine R_iconst_m1 dX12_readCase_104 ?_
            refine invV3 rfl dX12_readCase_105 kX12_158 hG.o (Nat.le_of_ble_eq_true rfl) (Nat.zero_le _) (Nat.zero_le _) (C_X12_told hG T5 7 16 (by decide) (by decide) sw_7 (z := ((j : Nat) : Int) - 1) (y := -1) (l := -1) (m := ((j : Nat) : Int) - 1) (by omega) (by omega) (fun h6 v6 m6 q6 => konI ?_))
            have hW6 := m6.w hW5
            refine iS5 dX12_readCase_108 ?_
            refine iL5 dX12_readCase_110 ?_
            refine R_ldcI dX12_readCase_112 qX12_147 (by decide) ?_
            refine R_icmp_ne dX12_readCase_114 (fun hb114 => ?_) (fun hb114 => ?_)
            · obtain ⟨b6, k6, T6, r6⟩ := q6.yes (by omega)
              rw [← hj] at r6
              refine aL0 dX12_readCase_119 ?_
              refine R_getR dX12_readCase_120 fX12_13.r hG.o rfl ?_
              refine iL1 dX12_readCase_123 ?_
              refine R_iconst_0 dX12_readCase_124 ?_
              refine invS2 rfl dX12_readCase_125 kX12_84 (Nat.le_of_ble_eq_true rfl) (Nat.zero_le _) (Nat.zero_le _) (C_X12_at (b := 0) (i := (100 + 7 * j)) (by omega) (by omega) (konI ?_))
              refine iL2 dX12_readCase_128 ?_
              refine iastN dX12_readCase_129 hG.a1 rfl (by omega) ?_
              refine storH (fun h7 e7 => ?_)
              have hW7 : h7 (M + 1) = (updW w (100 + 7 * j) (thT b L (k + 1) - 1024)) := by rw [e7]; exact hW_up hW6
              refine aL0 dX12_readCase_130 ?_
              refine R_getR dX12_readCase_131 fX12_13.r hG.o rfl ?_
              refine iL1 dX12_readCase_134 ?_
              refine R_iconst_1 dX12_readCase_135 ?_
              refine invS2 rfl dX12_readCase_136 kX12_84 (Nat.le_of_ble_eq_true rfl) (Nat.zero_le _) (Nat.zero_le _) (C_X12_at (b := 1) (i := (101 + 7 * j)) (by omega) (by omega) (konI ?_))
              refine iL3 dX12_readCase_139 ?_
              refine iastN dX12_readCase_140 hG.a1 rfl (by omega) ?_
              refine storH (fun h8 e8 => ?_)
              have hW8 : h8 (M + 1) = (updW (updW w (100 + 7 * j) (thT b L (k + 1) - 1024)) (101 + 7 * j) v4) := by rw [e8]; exact hW_up hW7
              refine aL0 dX12_readCase_141 ?_
              refine R_getR dX12_readCase_142 fX12_13.r hG.o rfl ?_
              refine iL1 dX12_readCase_145 ?_
              refine R_iconst_2 dX12_readCase_146 ?_
              refine invS2 rfl dX12_readCase_147 kX12_84 (Nat.le_of_ble_eq_true rfl) (Nat.zero_le _) (Nat.zero_le _) (C_X12_at (b := 2) (i := (102 + 7 * j)) (by omega) (by omega) (konI ?_))
              refine iL4 dX12_readCase_150 ?_
              refine iastN dX12_readCase_152 hG.a1 rfl (by omega) ?_
              refine storH (fun h9 e9 => ?_)
              have hW9 : h9 (M + 1) = (updW (updW (updW w (100 + 7 * j) (thT b L (k + 1) - 1024)) (101 + 7 * j) v4) (102 + 7 * j) v5) := by rw [e9]; exact hW_up hW8
              refine aL0 dX12_readCase_153 ?_
              refine R_getR dX12_readCase_154 fX12_13.r hG.o rfl ?_
              refine iL1 dX12_readCase_157 ?_
              refine R_iconst_3 dX12_readCase_158 ?_
              refine invS2 rfl dX12_readCase_159 kX12_84 (Nat.le_of_ble_eq_true rfl) (Nat.zero_le _) (Nat.zero_le _) (C_X12_at (b := 3) (i := (103 + 7 * j)) (by omega) (by omega) (konI ?_))
              refine iL5 dX12_readCase_162 ?_
              refine iastN dX12_readCase_164 hG.a1 rfl (by omega) ?_
              refine storH (fun h10 e10 => ?_)
              have hW10 : h10 (M + 1) = (updW (updW (updW (updW w (100 + 7 * j) (thT b L (k + 1) - 1024)) (101 + 7 * j) v4) (102 + 7 * j) v5) (103 + 7 * j) v6) := by rw [e10]; exact hW_up hW9
              refine aL0 dX12_readCase_165 ?_
              refine R_getR dX12_readCase_166 fX12_13.r hG.o rfl ?_
              refine iL1 dX12_readCase_169 ?_
              refine R_iconst_4 dX12_readCase_170 ?_
              refine invS2 rfl dX12_readCase_171 kX12_84 (Nat.le_of_ble_eq_true rfl) (Nat.zero_le _) (Nat.zero_le _) (C_X12_at (b := 4) (i := (104 + 7 * j)) (by omega) (by omega) (konI ?_))
              refine R_iconst_0 dX12_readCase_174 ?_
              refine iastN dX12_readCase_175 hG.a1 rfl (by omega) ?_
              refine storH (fun h11 e11 => ?_)
              have hW11 : h11 (M + 1) = (updW (updW (updW (updW (updW w (100 + 7 * j) (thT b L (k + 1) - 1024)) (101 + 7 * j) v4) (102 + 7 * j) v5) (103 + 7 * j) v6) (104 + 7 * j) 0) := by rw [e11]; exact hW_up hW10
              refine aL0 dX12_readCase_176 ?_
              refine R_getR dX12_readCase_177 fX12_13.r hG.o rfl ?_
              refine iL1 dX12_readCase_180 ?_
              refine R_iconst_5 dX12_readCase_181 ?_
              refine invS2 rfl dX12_readCase_182 kX12_84 (Nat.le_of_ble_eq_true rfl) (Nat.zero_le _) (Nat.zero_le _) (C_X12_at (b := 5) (i := (105 + 7 * j)) (by omega) (by omega) (konI ?_))
              refine R_iconst_m1 dX12_readCase_185 ?_
              refine iastN dX12_readCase_186 hG.a1 rfl (by omega) ?_
              refine storH (fun h12 e12 => ?_)
              have hW12 : h12 (M + 1) = (updW (updW (updW (updW (updW (updW w (100 + 7 * j) (thT b L (k + 1) - 1024)) (101 + 7 * j) v4) (102 + 7 * j) v5) (103 + 7 * j) v6) (104 + 7 * j) 0) (105 + 7 * j) (-1)) := by rw [e12]; exact hW_up hW11
              refine aL0 dX12_readCase_187 ?_
              refine R_getR dX12_readCase_188 fX12_13.r hG.o rfl ?_
              refine iL1 dX12_readCase_191 ?_
              refine R_bipush dX12_readCase_192 (by decide) ?_
              refine invS2 rfl dX12_readCase_194 kX12_84 (Nat.le_of_ble_eq_true rfl) (Nat.zero_le _) (Nat.zero_le _) (C_X12_at (b := 6) (i := (106 + 7 * j)) (by omega) (by omega) (konI ?_))
              refine R_iconst_m1 dX12_readCase_197 ?_
              refine iastN dX12_readCase_198 hG.a1 rfl (by omega) ?_
              refine storH (fun h13 e13 => ?_)
              have hW13 : h13 (M + 1) = (updW (updW (updW (updW (updW (updW (updW w (100 + 7 * j) (thT b L (k + 1) - 1024)) (101 + 7 * j) v4) (102 + 7 * j) v5) (103 + 7 * j) v6) (104 + 7 * j) 0) (105 + 7 * j) (-1)) (106 + 7 * j) (-1)) := by rw [e13]; exact hW_up hW12
              refine aL0 dX12_readCase_199 ?_
              refine R_getR dX12_readCase_200 fX12_13.r hG.o rfl ?_
              refine R_iconst_1 dX12_readCase_203 ?_
              refine dup2IR dX12_readCase_204 ?_
              refine ialdN (k := 1) dX12_readCase_205 hG.a1 rfl (by decide) ?_
              refine topV (v := w 1) ((congrFun hW13 _).trans (by rw [updW_n (by omega), updW_n (by omega), updW_n (by omega), updW_n (by omega), updW_n (by omega), updW_n (by omega), updW_n (by omega)])) ?_
              refine R_iconst_1 dX12_readCase_206 ?_
              refine addV dX12_readCase_207 (wid (by omega) (by omega)) ?_
              refine iastN (k := 1) dX12_readCase_208 hG.a1 rfl (by decide) ?_
              refine storH (fun h14 e14 => ?_)
              have hW14 : h14 (M + 1) = (updW (updW (updW (updW (updW (updW (updW (updW w (100 + 7 * j) (thT b L (k + 1) - 1024)) (101 + 7 * j) v4) (102 + 7 * j) v5) (103 + 7 * j) v6) (104 + 7 * j) 0) (105 + 7 * j) (-1)) (106 + 7 * j) (-1)) 1 ((w 1) + 1)) := by rw [e14]; exact hW_up hW13
              refine R_iconst_1 dX12_readCase_209 ?_
              exact R_zret dX12_readCase_210 rfl (by decide) (K _ _ (by rw [e14, e13, e12, e11, e10, e9, e8, e7]; exact (((((((((((m1.x.tr m4.x).tr m5.x).tr m6.x).up).up).up).up).up).up).up).up)) (Or.inl ⟨rfl, _, _, (if_neg (by omega)).trans ((rdN_y hkd.1 hkd.2).trans ((r4 _ _).trans ((r5 _ _).trans (r6 _ _)))), by rw [e14, e13, e12, e11, e10, e9, e8, e7]; exact ((((((((T6.wd).wd).wd).wd).wd).wd).wd).wd), by rw [hW14]; exact cs_eq hj, hf.cs (by omega) (by omega) (by omega) (by omega) (by omega)⟩))
            · obtain ⟨f6, w6, r6⟩ := q6.no (by omega)
              rw [← hj] at r6
              refine R_iconst_0 dX12_readCase_117 ?_
              exact R_zret dX12_readCase_118 rfl (by decide) (K _ _ (((m1.x.tr m4.x).tr m5.x).tr m6.x) (Or.inr ⟨rfl, _, (if_neg (by omega)).trans ((rdN_y hkd.1 hkd.2).trans ((r4 _ _).trans ((r5 _ _).trans (r6 _ _)))), w6, hW6⟩))
          · obtain ⟨f5, w5, r5⟩ := q5.no (by omega)
            refine R_ldcI dX12_readCase_93 qX12_147 (by decide) ?_
            refine R_goto dX12_readCase_95 ?_
            refine iS5 dX12_readCase_108 ?_
            refine iL5 dX12_readCase_110 ?_
            refine R_ldcI dX12_readCase_112 qX12_147 (by decide) ?_
            refine R_icmp_ne dX12_readCase_114 (fun hb114 => ?_) (fun hb114 => ?_)
            · exact absurd rfl hb114
            · refine R_iconst_0 dX12_readCase_117 ?_
              exact R_zret dX12_readCase_118 rfl (by decide) (K _ _ ((m1.x.tr m4.x).tr m5.x) (Or.inr ⟨rfl, _, (if_neg (by omega)).trans ((rdN_y hkd.1 hkd.2).trans ((r4 _ _).trans (r5 _ _))), w5, hW5⟩))
        · obtain ⟨f4, w4, r4⟩ := q4.no (by omega)
          refine R_iconst_0 dX12_readCase_73 ?_
          exact R_zret dX12_readCase_74 rfl (by decide) (K _ _ (m1.x.tr m4.x) (Or.inr ⟨rfl, _, (if_neg (by omega)).trans ((rdN_y hkd.1 hkd.2).trans (r4 _ _)), w4, hW4⟩))
      · refine R_iconst_0 dX12_readCase_44 ?_
        exact R_zret dX12_readCase_45 rfl (by decide) (K _ _ m1.x (Or.inr ⟨rfl, _, (if_neg (by omega)).trans (rdN_n (fun q9 => by have := hcc.mp q9; omega)), hL1.2.1, hW1⟩))
  · refine R_iconst_0 dX12_readCase_11 ?_
    exact R_zret dX12_readCase_12 rfl (by decide) (K _ _ MvX.rf (Or.inr ⟨rfl, _, if_pos (by omega), hL.2.1, hW⟩))
set_option maxHeartbeats 1000000 in
theorem C_X12_readAssizeLine {d : Nat} {g : Gs} {h : Hc} {P : Po} {M : Nat} {w : Nat → Int} (hG : MdG g M) (hW : h (M + 1) = w) (hf : WF w) {b : Nat → Int} {L k : Nat} (hL : LeM M h b L k) (K : ∀ h' (v : Int), MvX M h h' → LnM M h' b L v w (asLine (thT b L) w k) → P (.inl (some (vI v))) g h') : Call (d + 8) 0 0 mX12_readAssizeLine [vR M] g h P := by
  have hjd := hf.jud
  have hcs := hf.cas
  refine Call_of rfl ⟨by decide +kernel, rfl⟩ (Nat.le_of_ble_eq_true rfl) rfl ?_
  refine aL0 dX12_readAssizeLine_0 ?_
  refine R_ldcS (i := 8) dX12_readAssizeLine_1 rfl ?_
  refine invV1 rfl dX12_readAssizeLine_3 kX12_137 hG.o (Nat.le_of_ble_eq_true rfl) (Nat.zero_le _) (Nat.zero_le _) (C_isWord hG hL 8 0 (by decide) (by decide) sw_8 (konI ?_))
  refine R_ifB_eq dX12_readAssizeLine_6 (fun hb6 => ?_) (fun hb6 => ?_)
  · have c0 : ¬ thT b L k = 1000 := by have := of_decide_eq_false hb6; omega
    refine aL0 dX12_readAssizeLine_14 ?_
    refine R_ldcS (i := 9) dX12_readAssizeLine_15 rfl ?_
    refine invV1 rfl dX12_readAssizeLine_17 kX12_137 hG.o (Nat.le_of_ble_eq_true rfl) (Nat.zero_le _) (Nat.zero_le _) (C_isWord hG hL 9 12 (by decide) (by decide) sw_9 (konI ?_))
    refine R_ifB_eq dX12_readAssizeLine_20 (fun hb20 => ?_) (fun hb20 => ?_)
    · have c1 : ¬ thT b L k = 1012 := by have := of_decide_eq_false hb20; omega
      refine aL0 dX12_readAssizeLine_28 ?_
      refine R_ldcS (i := 10) dX12_readAssizeLine_29 rfl ?_
      refine invV1 rfl dX12_readAssizeLine_31 kX12_137 hG.o (Nat.le_of_ble_eq_true rfl) (Nat.zero_le _) (Nat.zero_le _) (C_isWord hG hL 10 13 (by decide) (by decide) sw_10 (konI ?_))
      refine R_ifB_eq dX12_readAssizeLine_34 (fun hb34 => ?_) (fun hb34 => ?_)
      · have c2 : ¬ thT b L k = 1013 := by have := of_decide_eq_false hb34; omega
        refine aL0 dX12_readAssizeLine_42 ?_
        refine R_ldcS (i := 11) dX12_readAssizeLine_43 rfl ?_
        refine invV1 rfl dX12_readAssizeLine_45 kX12_137 hG.o (Nat.le_of_ble_eq_true rfl) (Nat.zero_le _) (Nat.zero_le _) (C_isWord hG hL 11 14 (by decide) (by decide) sw_11 (konI ?_))
        refine R_ifB_eq dX12_readAssizeLine_48 (fun hb48 => ?_) (fun hb48 => ?_)
        · have c3 : ¬ thT b L k = 1014 := by have := of_decide_eq_false hb48; omega
          refine aL0 dX12_readAssizeLine_56 ?_
          refine R_ldcS (i := 12) dX12_readAssizeLine_57 rfl ?_
          refine invV1 rfl dX12_readAssizeLine_59 kX12_137 hG.o (Nat.le_of_ble_eq_true rfl) (Nat.zero_le _) (Nat.zero_le _) (C_isWord hG hL 12 6 (by decide) (by decide) sw_12 (konI ?_))
          refine R_ifB_eq dX12_readAssizeLine_62 (fun hb62 => ?_) (fun hb62 => ?_)
          · have c4 : ¬ thT b L k = 1006 := by have := of_decide_eq_false hb62; omega
            refine aL0 dX12_readAssizeLine_74 ?_
            refine R_ldcS (i := 13) dX12_readAssizeLine_75 rfl ?_
            refine invV1 rfl dX12_readAssizeLine_77 kX12_137 hG.o (Nat.le_of_ble_eq_true rfl) (Nat.zero_le _) (Nat.zero_le _) (C_isWord hG hL 13 15 (by decide) (by decide) sw_13 (konI ?_))
            refine R_ifB_eq dX12_readAssizeLine_80 (fun hb80 => ?_) (fun hb80 => ?_)
            · have c5 : ¬ thT b L k = 1015 := by have := of_decide_eq_false hb80; omega
              refine R_iconst_0 dX12_readAssizeLine_99 ?_
              exact R_zret dX12_readAssizeLine_100 rfl (by decide) (K _ _ MvX.rf (Or.inr ⟨rfl, k, by unfold asLine; rw [if_neg c0, if_neg c1, if_neg c2, if_neg c3, if_neg c4, if_neg c5], hL.2.1, hW⟩))
            · have c5 : thT b L k = 1015 := by have := of_decide_eq_true hb80; omega
              refine aL0 dX12_readAssizeLine_83 ?_
              refine R_iconst_5 dX12_readAssizeLine_84 ?_
              refine R_iconst_0 dX12_readAssizeLine_85 ?_
              refine R_sipush dX12_readAssizeLine_86 (by decide) ?_
              refine invV3 rfl dX12_readAssizeLine_89 kX12_172 hG.o (Nat.le_of_ble_eq_true rfl) (Nat.zero_le _) (Nat.zero_le _) (C_X12_readNumber hG hW (hL.st (by omega) (by omega)) (i := 5) (by omega) (lo := 0) (hi := 999) (by decide) (by decide) (fun h1 v1 m1 q1 => konI ?_))
              refine R_if_eq dX12_readAssizeLine_92 (fun hb92 => ?_) (fun hb92 => ?_)
              · refine R_iconst_0 dX12_readAssizeLine_99 ?_
                exact R_zret dX12_readAssizeLine_100 rfl (by decide) (PeqI (K _ _ m1 ((LnM.num q1 (fun q => hf.uda (by omega))).of (by unfold asLine; rw [if_neg c0, if_neg c1, if_neg c2, if_neg c3, if_neg c4, if_pos c5]))) (by rcases q1 with ⟨q, -⟩ | ⟨q, -⟩ <;> omega))
              · refine R_iconst_1 dX12_readAssizeLine_95 ?_
                refine R_goto dX12_readAssizeLine_96 ?_
                exact R_zret dX12_readAssizeLine_100 rfl (by decide) (PeqI (K _ _ m1 ((LnM.num q1 (fun q => hf.uda (by omega))).of (by unfold asLine; rw [if_neg c0, if_neg c1, if_neg c2, if_neg c3, if_neg c4, if_pos c5]))) (by rcases q1 with ⟨q, -⟩ | ⟨q, -⟩ <;> omega))
          · have c4 : thT b L k = 1006 := by have := of_decide_eq_true hb62; omega
            refine aL0 dX12_readAssizeLine_65 ?_
            refine R_iconst_4 dX12_readAssizeLine_66 ?_
            refine R_iconst_0 dX12_readAssizeLine_67 ?_
            refine R_bipush dX12_readAssizeLine_68 (by decide) ?_
            refine invV3 rfl dX12_readAssizeLine_70 kX12_172 hG.o (Nat.le_of_ble_eq_true rfl) (Nat.zero_le _) (Nat.zero_le _) (C_X12_readNumber hG hW (hL.st (by omega) (by omega)) (i := 4) (by omega) (lo := 0) (hi := 11) (by decide) (by decide) (fun h1 v1 m1 q1 => konI ?_))
            exact R_zret dX12_readAssizeLine_73 rfl (by rcases q1 with ⟨q, -⟩ | ⟨q, -⟩ <;> omega) (K _ _ m1 ((LnM.num q1 (fun q => hf.uho (by omega))).of (by unfold asLine; rw [if_neg c0, if_neg c1, if_neg c2, if_neg c3, if_pos c4])))
        · have c3 : thT b L k = 1014 := by have := of_decide_eq_true hb48; omega
          refine aL0 dX12_readAssizeLine_51 ?_
          refine invV0 rfl dX12_readAssizeLine_52 kX12_193 hG.o (Nat.le_of_ble_eq_true rfl) (Nat.zero_le _) (Nat.zero_le _) (C_X12_readInn hG hW hf (hL.st (by omega) (by omega)) (fun h1 v1 m1 q1 => konI ?_))
          exact R_zret dX12_readAssizeLine_55 rfl (q1.b) (K _ _ m1 (q1.of (by unfold asLine; rw [if_neg c0, if_neg c1, if_neg c2, if_pos c3])))
      · have c2 : thT b L k = 1013 := by have := of_decide_eq_true hb34; omega
        refine aL0 dX12_readAssizeLine_37 ?_
        refine invV0 rfl dX12_readAssizeLine_38 kX12_188 hG.o (Nat.le_of_ble_eq_true rfl) (Nat.zero_le _) (Nat.zero_le _) (C_X12_readList hG hW hf (hL.st (by omega) (by omega)) (fun h1 v1 m1 q1 => konI ?_))
        exact R_zret dX12_readAssizeLine_41 rfl (q1.b) (K _ _ m1 (q1.of (by unfold asLine; rw [if_neg c0, if_neg c1, if_pos c2])))
    · have c1 : thT b L k = 1012 := by have := of_decide_eq_true hb20; omega
      refine aL0 dX12_readAssizeLine_23 ?_
      refine invV0 rfl dX12_readAssizeLine_24 kX12_183 hG.o (Nat.le_of_ble_eq_true rfl) (Nat.zero_le _) (Nat.zero_le _) (C_X12_readCase hG hW hf hL c1 (fun h1 v1 m1 q1 => konI ?_))
      exact R_zret dX12_readAssizeLine_27 rfl (q1.b) (K _ _ m1 (q1.of (by unfold asLine; rw [if_neg c0, if_pos c1])))
  · have c0 : thT b L k = 1000 := by have := of_decide_eq_true hb6; omega
    refine aL0 dX12_readAssizeLine_9 ?_
    refine invV0 rfl dX12_readAssizeLine_10 kX12_177 hG.o (Nat.le_of_ble_eq_true rfl) (Nat.zero_le _) (Nat.zero_le _) (C_X12_readJudge hG hW hf hL c0 (fun h1 v1 m1 q1 => konI ?_))
    exact R_zret dX12_readAssizeLine_13 rfl (q1.b) (K _ _ m1 (q1.of (by unfold asLine; rw [if_pos c0])))
