/-! LINES OF THE LAW, BY THE MODEL; what a reading leaves as it was -/
section
variable {t u1 : Nat → Int} {c1 k1 : Nat}
theorem emU_k {u : Nat → Int} {c i : Nat} {p : Bool} {a : Int} (h : i < c ∨ emC c p ≤ i) : emU u c p a i = u i := by
  cases p with
  | false => rfl
  | true =>
    have : emC c true = c + 1 := rfl
    exact updW_n (by omega)
theorem emC_le (c : Nat) (p : Bool) : c ≤ emC c p := by cases p <;> simp [emC]
theorem cmq_k : ∀ (m : Nat) (sg : Int) (pl : Bool) (u : Nat → Int) (c k : Nat), cmqL t m sg pl u c k = .inr (u1, c1, k1) → ∀ i, (i < c ∨ c1 ≤ i) → u1 i = u i := by
  intro m
  induction m with
  | zero => intro sg pl u c k h; exact nomatch h
  | succ m ih =>
    intro sg pl u c k h i hi
    have hle := emC_le (c + 1) pl
    by_cases h0 : 0 ≤ t k ∧ t k ≤ 1006
    · by_cases h1 : t (k + 1) = 2043
      · rw [cmqL_p h0 h1] at h
        have hl := (cmqL_le _ _ _ _ _ _ h).2.1
        rw [ih _ _ _ _ _ h i (by omega), emU_k (by omega), updW_n (by omega)]
      · by_cases h2 : 0 ≤ sg
        · rw [cmqL_e h0 h1 h2] at h
          cases h
          rw [updW_n (by omega), emU_k (by omega), updW_n (by omega)]
        · by_cases h3 : t (k + 1) = 2060 ∨ t (k + 1) = 2062
          · rw [cmqL_g h0 h1 h2 h3] at h
            have hl := (cmqL_le _ _ _ _ _ _ h).2.1
            rw [ih _ _ _ _ _ h i (by omega), emU_k (by omega), updW_n (by omega)]
          · rw [cmqL_w h0 h1 h2 h3] at h
            exact nomatch h
    · rw [cmqL_n h0] at h
      exact nomatch h
abbrev kpA (A : (Nat → Int) → Nat → Nat → Nat ⊕ LsT) : Prop := ∀ (u u1 : Nat → Int) (c k c1 k1 : Nat), A u c k = .inr (u1, c1, k1) → ∀ i, (i < c ∨ c1 ≤ i) → u1 i = u i
theorem cnd_k {A : (Nat → Int) → Nat → Nat → Nat ⊕ LsT} (hA : leA A) (hK : kpA A) : ∀ (m : Nat) (o a : Bool) (u : Nat → Int) (c k : Nat), cndL t A m o a u c k = .inr (u1, c1, k1) → ∀ i, (i < c ∨ c1 ≤ i) → u1 i = u i := by
  intro m
  induction m with
  | zero => intro o a u c k h; exact nomatch h
  | succ m ih =>
    intro o a u c k h i hi
    cases hq : A u c k with
    | inl f => rw [cndL_f hq] at h; exact nomatch h
    | inr R =>
      obtain ⟨u2, c2, k2⟩ := R
      obtain ⟨b1, b2, b3⟩ := hA _ _ _ _ _ _ hq
      have e1 := emC_le c2 a
      have e2 := emC_le (emC c2 a) o
      by_cases h1 : t k2 = 1022
      · rw [cndL_a hq h1] at h
        have hl := (cndL_le hA _ _ _ _ _ _ h).2.1
        rw [ih _ _ _ _ _ h i (by omega), emU_k (by omega), hK _ _ _ _ _ _ hq i (by omega)]
      · by_cases h2 : t k2 = 1021
        · rw [cndL_o hq h1 h2] at h
          have hl := (cndL_le hA _ _ _ _ _ _ h).2.1
          rw [ih _ _ _ _ _ h i (by omega), emU_k (by omega), emU_k (by omega), hK _ _ _ _ _ _ hq i (by omega)]
        · rw [cndL_e hq h1 h2] at h
          cases h
          rw [emU_k (by omega), emU_k (by omega), hK _ _ _ _ _ _ hq i (by omega)]
theorem atm0_k : kpA (atm0 t) := by
  intro u u1 c k c1 k1 h i hi
  by_cases h1 : 1007 ≤ t k ∧ t k ≤ 1009
  · rw [atm0_t h1] at h
    cases h
    exact updW_n (by omega)
  · rw [atm0_c h1] at h
    exact cmq_k _ _ _ _ _ _ h i hi
theorem atm_k : ∀ r, kpA (atmL t r) := by
  intro r
  induction r with
  | zero =>
    intro u u1 c k c1 k1 h i hi
    by_cases h1 : t k = 1023 ∨ t k = 2040
    · rw [atmL_z h1] at h; exact nomatch h
    · rw [atmL_0 (by omega) (by omega)] at h
      exact atm0_k _ _ _ _ _ _ h i hi
  | succ r ih =>
    intro u u1 c k c1 k1 h i hi
    by_cases h1 : t k = 2040
    · cases hq : cndL t (atmL t r) 400 false false u c (k + 1) with
      | inl f => rw [atmL_of h1 hq] at h; exact nomatch h
      | inr R =>
        obtain ⟨u2, c2, k2⟩ := R
        by_cases h2 : t k2 = 2041
        · rw [atmL_oy h1 hq h2] at h; cases h
          exact cnd_k (atmL_le r) ih _ _ _ _ _ _ hq i hi
        · rw [atmL_on h1 hq h2] at h; exact nomatch h
    · by_cases h2 : t k = 1023
      · cases hq : atmL t r u c (k + 1) with
        | inl f => rw [atmL_nf h2 hq] at h; exact nomatch h
        | inr R =>
          obtain ⟨u2, c2, k2⟩ := R
          have hl := atmL_le r _ _ _ _ _ _ hq
          rw [atmL_ny h2 hq] at h
          cases h
          rw [updW_n (by omega)]
          exact ih _ _ _ _ _ _ hq i (by omega)
      · rw [atmL_0 h2 h1] at h
        exact atm0_k _ _ _ _ _ _ h i hi
end
def vbL (x : Int) : Int := if x = 1017 then 0 else if x = 1018 then 1 else if x = 1019 then 2 else -1
theorem vbL_y {x : Int} (h : 0 ≤ vbL x) : (1017 ≤ x ∧ x ≤ 1019) ∧ vbL x = x - 1017 := by
  unfold vbL at h ⊢
  by_cases h1 : x = 1017
  · rw [if_pos h1]; omega
  · rw [if_neg h1] at h ⊢
    by_cases h2 : x = 1018
    · rw [if_pos h2]; omega
    · rw [if_neg h2] at h ⊢
      by_cases h3 : x = 1019
      · rw [if_pos h3]; omega
      · rw [if_neg h3] at h; omega
theorem vbL_n {x : Int} (h : ¬ 0 ≤ vbL x) : ¬ (1017 ≤ x ∧ x ≤ 1019) := by
  intro q
  unfold vbL at h
  by_cases h1 : x = 1017
  · rw [if_pos h1] at h; omega
  · rw [if_neg h1] at h
    by_cases h2 : x = 1018
    · rw [if_pos h2] at h; omega
    · rw [if_neg h2, if_pos (by omega)] at h; omega
def MvZ (M : Nat) (h h' : Hc) : Prop := ∀ a i, ¬ (a = M ∧ (i = 10 ∨ i = 12 ∨ i = 13 ∨ i = 16)) → ¬ (a = M + 1 ∧ 1365 ≤ i) → h' a i = h a i
theorem MvY.z {M : Nat} {h h' : Hc} (p : MvY M h h') : MvZ M h h' := fun a i n m => p a i n (fun q => m ⟨q.1, by omega⟩)
theorem MvZ.rf {M : Nat} {h : Hc} : MvZ M h h := fun _ _ _ _ => rfl
theorem MvZ.tr {M : Nat} {h1 h2 h3 : Hc} (p : MvZ M h1 h2) (q : MvZ M h2 h3) : MvZ M h1 h3 := fun a i n m => (q a i n m).trans (p a i n m)
theorem MvZ.wd {M i : Nat} {h h' : Hc} {v : Int} (p : MvZ M h h') (hi : 1365 ≤ i) : MvZ M h (updH h' (M + 1) i v) := by
  intro a j n m
  by_cases e : a = M + 1
  · subst e
    rw [updH_i (fun e2 => m ⟨rfl, by omega⟩)]
    exact p _ j n m
  · rw [updH_a e]
    exact p a j n m
theorem MvZ.fl {M i : Nat} {h h' : Hc} {v : Int} (p : MvZ M h h') (hi : i = 10 ∨ i = 12 ∨ i = 13 ∨ i = 16) : MvZ M h (updH h' M i v) := by
  intro a j n m
  by_cases e : a = M
  · subst e
    rw [updH_i (fun e2 => n ⟨rfl, by rw [e2]; exact hi⟩)]
    exact p _ j n m
  · rw [updH_a e]
    exact p a j n m
theorem LaM.wl {M i : Nat} {h : Hc} {u : Nat → Int} {n c : Nat} {v : Int} (q : LaM M h u n c) (h1 : 1366 + 4 * n ≤ i) (h2 : i < 1414) : LaM M (updH h (M + 1) i v) u n c := by
  obtain ⟨q0, q1, q2⟩ := q
  refine ⟨by rw [updH_a (by omega)]; exact q0, fun j hj => ?_, fun j hj => ?_⟩
  · rw [updH_i (by omega), updH_i (by omega)]; exact q1 j hj
  · rw [updH_i (by omega), updH_i (by omega), updH_i (by omega), updH_i (by omega)]; exact q2 j hj
theorem LeM.wd {M i : Nat} {h : Hc} {b : Nat → Int} {L k : Nat} {v : Int} (q : LeM M h b L k) : LeM M (updH h (M + 1) i v) b L k := ⟨q.1.wd, by rw [updH_a (by omega)]; exact q.2.1, q.2.2⟩
theorem LaM.ln {M : Nat} {h : Hc} {u : Nat → Int} {n c : Nat} (q : LaM M h u n c) (hc : c ≤ 400) {v a : Int} (w0 : h (M + 1) (1366 + 4 * n) = v - 1017) (w1 : h (M + 1) (1367 + 4 * n) = a) (w2 : h (M + 1) (1368 + 4 * n) = if n = 0 then 0 else u (402 + 3 * (n - 1))) (w3 : h (M + 1) (1369 + 4 * n) = (c : Int)) : LaM M h (lnU u n v a c) (n + 1) c := by
  obtain ⟨q0, q1, q2⟩ := q
  have e : ∀ i, i < 400 + 3 * n → lnU u n v a c i = u i := fun i hi => by unfold lnU; rw [updW_n (by omega), updW_n (by omega), updW_n (by omega)]
  refine ⟨q0, fun i hi => by rw [e _ (by omega)]; exact q1 i hi, fun i hi => ?_⟩
  by_cases e8 : i = n
  · subst e8
    have e9 : (if i = 0 then (0 : Int) else lnU u i v a c (402 + 3 * (i - 1))) = if i = 0 then 0 else u (402 + 3 * (i - 1)) := by
      by_cases h0 : i = 0
      · rw [if_pos h0, if_pos h0]
      · rw [if_neg h0, if_neg h0, e _ (by omega)]
    rw [w0, w1, w2, w3, e9]
    refine ⟨?_, ?_, rfl, ?_⟩
    · unfold lnU; rw [updW_n (by omega), updW_n (by omega), updW_s]
    · unfold lnU; rw [updW_n (by omega), updW_s]
    · unfold lnU; rw [updW_s]
  · have e9 : (if i = 0 then (0 : Int) else lnU u n v a c (402 + 3 * (i - 1))) = if i = 0 then 0 else u (402 + 3 * (i - 1)) := by
      by_cases h0 : i = 0
      · rw [if_pos h0, if_pos h0]
      · rw [if_neg h0, if_neg h0, e _ (by omega)]
    rw [e9, e _ (by omega), e _ (by omega), e _ (by omega)]
    exact q2 i (by omega)
def LqM (M : Nat) (h : Hc) (b : Nat → Int) (L n : Nat) (v : Int) (R : Nat ⊕ LsT) : Prop := (v = 1 ∧ ∃ u1 c1 k1, R = .inr (u1, c1, k1) ∧ StM M h b L k1 ∧ LaM M h u1 (n + 1) c1) ∨ (v = 0 ∧ ∃ f, R = .inl f ∧ WrM M h b L f)
theorem LqM.b {M : Nat} {h : Hc} {b : Nat → Int} {L n : Nat} {v : Int} {R : Nat ⊕ LsT} (q : LqM M h b L n v R) : v = 0 ∨ v = 1 := q.elim (fun x => Or.inr x.1) (fun x => Or.inl x.1)
set_option maxHeartbeats 1000000 in
theorem C_X12_readLawLine {d : Nat} {g : Gs} {h : Hc} {P : Po} {M : Nat} (hG : MdG g M) {b : Nat → Int} {L : Nat} {k : Nat} (hL : LeM M h b L k) {u : Nat → Int} {n c : Nat} (hD : LaM M h u n c) (hn : n < 12) (hck : c ≤ k) (hst : (c : Int) = if n = 0 then 0 else u (402 + 3 * (n - 1))) (K : ∀ h' (v : Int), MvZ M h h' → LqM M h' b L n v (lawLn (thT b L) u n c k) → P (.inl (some (vI v))) g h') : Call (d + 29) 0 0 mX12_readLawLine [vR M, vI ((n : Nat) : Int)] g h P := by
  have hkn := hL.kn
  refine Call_of rfl ⟨by decide +kernel, rfl⟩ (Nat.le_of_ble_eq_true rfl) rfl ?_
  refine R_sipush dX12_readLawLine_0 (by decide) ?_
  refine R_iconst_4 dX12_readLawLine_3 ?_
  refine iL1 dX12_readLawLine_4 ?_
  refine mulV dX12_readLawLine_5 (v := (((4 * n) : Nat) : Int)) (by rw [wid (by omega) (by omega)]; omega) ?_
  refine addV dX12_readLawLine_6 (v := (((1366 + (4 * n)) : Nat) : Int)) (by rw [wid (by omega) (by omega)]; omega) ?_
  refine iS2 dX12_readLawLine_7 ?_
  refine aL0 dX12_readLawLine_8 ?_
  refine R_getR dX12_readLawLine_9 fX12_13.r hG.o rfl ?_
  refine iL2 dX12_readLawLine_12 ?_
  suffices J1 : Run (d + 29) 0 0 mX12_readLawLine 53 [vR M, vI ((n : Nat) : Int), vI (((1366 + (4 * n)) : Nat) : Int)] [vI ((vbL (thT b L k))), vI (((1366 + (4 * n)) : Nat) : Int), vR (M + 1)] g h P by
    refine aL0 dX12_readLawLine_13 ?_
    refine R_ldcS (i := 21) dX12_readLawLine_14 rfl ?_
    refine invV1 rfl dX12_readLawLine_16 kX12_137 hG.o (Nat.le_of_ble_eq_true rfl) (Nat.zero_le _) (Nat.zero_le _) (C_isWord hG hL 21 17 (by decide) (by decide) sw_21 (konI ?_))
    refine R_ifB_eq dX12_readLawLine_19 (fun hb19 => ?_) (fun hb19 => ?_)
    · have c0_ : ¬ thT b L k = 1017 := by have := of_decide_eq_false hb19; omega
      refine aL0 dX12_readLawLine_26 ?_
      refine R_ldcS (i := 22) dX12_readLawLine_27 rfl ?_
      refine invV1 rfl dX12_readLawLine_29 kX12_137 hG.o (Nat.le_of_ble_eq_true rfl) (Nat.zero_le _) (Nat.zero_le _) (C_isWord hG hL 22 18 (by decide) (by decide) sw_22 (konI ?_))
      refine R_ifB_eq dX12_readLawLine_32 (fun hb32 => ?_) (fun hb32 => ?_)
      · have c1_ : ¬ thT b L k = 1018 := by have := of_decide_eq_false hb32; omega
        refine aL0 dX12_readLawLine_39 ?_
        refine R_ldcS (i := 23) dX12_readLawLine_40 rfl ?_
        refine invV1 rfl dX12_readLawLine_42 kX12_137 hG.o (Nat.le_of_ble_eq_true rfl) (Nat.zero_le _) (Nat.zero_le _) (C_isWord hG hL 23 19 (by decide) (by decide) sw_23 (konI ?_))
        refine R_ifB_eq dX12_readLawLine_45 (fun hb45 => ?_) (fun hb45 => ?_)
        · have c2_ : ¬ thT b L k = 1019 := by have := of_decide_eq_false hb45; omega
          refine R_iconst_m1 dX12_readLawLine_52 ?_
          exact topV (v := (vbL (thT b L k))) (by unfold vbL; first | (rw [if_pos c0_]; done) | (rw [if_neg c0_, if_pos c1_]; done) | (rw [if_neg c0_, if_neg c1_, if_pos c2_]; done) | (rw [if_neg c0_, if_neg c1_, if_neg c2_]; done)) J1
        · have c2_ : thT b L k = 1019 := by have := of_decide_eq_true hb45; omega
          refine R_iconst_2 dX12_readLawLine_48 ?_
          refine R_goto dX12_readLawLine_49 ?_
          exact topV (v := (vbL (thT b L k))) (by unfold vbL; first | (rw [if_pos c0_]; done) | (rw [if_neg c0_, if_pos c1_]; done) | (rw [if_neg c0_, if_neg c1_, if_pos c2_]; done) | (rw [if_neg c0_, if_neg c1_, if_neg c2_]; done)) J1
      · have c1_ : thT b L k = 1018 := by have := of_decide_eq_true hb32; omega
        refine R_iconst_1 dX12_readLawLine_35 ?_
        refine R_goto dX12_readLawLine_36 ?_
        exact topV (v := (vbL (thT b L k))) (by unfold vbL; first | (rw [if_pos c0_]; done) | (rw [if_neg c0_, if_pos c1_]; done) | (rw [if_neg c0_, if_neg c1_, if_pos c2_]; done) | (rw [if_neg c0_, if_neg c1_, if_neg c2_]; done)) J1
    · have c0_ : thT b L k = 1017 := by have := of_decide_eq_true hb19; omega
      refine R_iconst_0 dX12_readLawLine_22 ?_
      refine R_goto dX12_readLawLine_23 ?_
      exact topV (v := (vbL (thT b L k))) (by unfold vbL; first | (rw [if_pos c0_]; done) | (rw [if_neg c0_, if_pos c1_]; done) | (rw [if_neg c0_, if_neg c1_, if_pos c2_]; done) | (rw [if_neg c0_, if_neg c1_, if_neg c2_]; done)) J1
  refine iastN dX12_readLawLine_53 hG.a1 rfl (by omega) ?_
  refine storH (fun h2 e2 => ?_)
  have D2 : LaM M h2 u n c := by rw [e2]; exact LaM.wl hD (by omega) (by omega)
  have y2 : MvZ M h h2 := by rw [e2]; exact MvZ.wd MvZ.rf (by omega)
  have L2 : LeM M h2 b L k := by rw [e2]; exact LeM.wd hL
  have w0_2 : h2 (M + 1) (1366 + 4 * n) = ((vbL (thT b L k))) := by rw [e2, show (1366 + (4 * n)) = 1366 + 4 * n by omega]; exact updH_s _ _ _ _
  refine aL0 dX12_readLawLine_54 ?_
  refine R_getR dX12_readLawLine_55 fX12_13.r hG.o rfl ?_
  refine iL2 dX12_readLawLine_58 ?_
  refine ialdN (k := 1366 + 4 * n) dX12_readLawLine_59 hG.a1 (by omega) (by omega) ?_
  refine topV (v := ((vbL (thT b L k)))) (w0_2) ?_
  refine R_if_ge dX12_readLawLine_60 (fun hb60 => ?_) (fun hb60 => ?_)
  · have vb := vbL_y (by omega)
    refine aL0 dX12_readLawLine_65 ?_
    refine R_getR dX12_readLawLine_66 fX12_13.r hG.o rfl ?_
    refine iL2 dX12_readLawLine_69 ?_
    refine R_iconst_1 dX12_readLawLine_70 ?_
    refine addV dX12_readLawLine_71 (v := ((((1366 + (4 * n)) + 1) : Nat) : Int)) (by rw [wid (by omega) (by omega)]; omega) ?_
    refine aL0 dX12_readLawLine_72 ?_
    refine R_iconst_0 dX12_readLawLine_73 ?_
    refine R_bipush dX12_readLawLine_74 (by decide) ?_
    refine invV2 rfl dX12_readLawLine_76 kX12_141 hG.o (Nat.le_of_ble_eq_true rfl) (Nat.zero_le _) (Nat.zero_le _) (C_X12_number hG (L2.st (by omega) (by omega)) (lo := 0) (hi := 99) (by decide) (by decide) (fun h3 v3 m3 q3 => konI ?_))
    have D3 := m3.la D2
    have y3 : MvZ M h h3 := y2.tr m3.y.z
    have w0_3 : h3 (M + 1) (1366 + 4 * n) = ((vbL (thT b L k))) := (m3 (M + 1) _ (by omega)).trans w0_2
    have st3 : v3 ≠ -1 → StM M h3 b L (k + 1 + 1) := fun q9 => (q3.y q9).2.2
    by_cases ok3 : v3 = -1
    · refine iastN (k := 1367 + 4 * n) dX12_readLawLine_79 hG.a1 (by omega) (by omega) ?_
      refine aL0 dX12_readLawLine_80 ?_
      refine R_getR dX12_readLawLine_81 fX12_13.r hG.o rfl ?_
      refine iL2 dX12_readLawLine_84 ?_
      refine R_iconst_1 dX12_readLawLine_85 ?_
      refine addV dX12_readLawLine_86 (wid (by omega) (by omega)) ?_
      refine ialdN (k := 1367 + 4 * n) dX12_readLawLine_87 hG.a1 (by omega) (by omega) ?_
      refine topV (v := v3) (updH_s _ _ _ _) ?_
      refine R_if_ge dX12_readLawLine_88 (fun hb => absurd hb (by omega)) (fun _ => ?_)
      refine R_iconst_0 dX12_readLawLine_91 ?_
      exact R_zret dX12_readLawLine_92 rfl (by decide) (K _ _ (y3.wd (by omega)) (Or.inr ⟨rfl, _, lawLn_a vb.1 (q3.n (by omega) (by decide)).1, by show updH _ (M + 1) _ _ M 12 = _; rw [updH_a (by omega)]; exact (q3.n (by omega) (by decide)).2⟩))
    refine iastN dX12_readLawLine_79 hG.a1 rfl (by omega) ?_
    refine storH (fun h4 e4 => ?_)
    have D4 : LaM M h4 u n c := by rw [e4]; exact LaM.wl D3 (by omega) (by omega)
    have y4 : MvZ M h h4 := by rw [e4]; exact MvZ.wd y3 (by omega)
    have T4 : StM M h4 b L (k + 1 + 1) := by rw [e4]; exact StM.wd (st3 ok3)
    have w0_4 : h4 (M + 1) (1366 + 4 * n) = ((vbL (thT b L k))) := by rw [e4, updH_i (by omega)]; exact w0_3
    have w1_4 : h4 (M + 1) (1367 + 4 * n) = v3 := by rw [e4, show ((1366 + (4 * n)) + 1) = 1367 + 4 * n by omega]; exact updH_s _ _ _ _
    refine aL0 dX12_readLawLine_80 ?_
    refine R_getR dX12_readLawLine_81 fX12_13.r hG.o rfl ?_
    refine iL2 dX12_readLawLine_84 ?_
    refine R_iconst_1 dX12_readLawLine_85 ?_
    refine addV dX12_readLawLine_86 (v := ((((1366 + (4 * n)) + 1) : Nat) : Int)) (by rw [wid (by omega) (by omega)]; omega) ?_
    refine ialdN (k := 1367 + 4 * n) dX12_readLawLine_87 hG.a1 (by omega) (by omega) ?_
    refine topV (v := v3) (w1_4) ?_
    refine R_if_ge dX12_readLawLine_88 (fun hb88 => ?_) (fun hb88 => ?_)
    · obtain ⟨xb, xv, -⟩ := q3.y ok3
      refine aL0 dX12_readLawLine_93 ?_
      refine R_getR dX12_readLawLine_94 fX12_13.r hG.o rfl ?_
      refine iL2 dX12_readLawLine_97 ?_
      refine R_iconst_2 dX12_readLawLine_98 ?_
      refine addV dX12_readLawLine_99 (v := ((((1366 + (4 * n)) + 2) : Nat) : Int)) (by rw [wid (by omega) (by omega)]; omega) ?_
      refine aL0 dX12_readLawLine_100 ?_
      refine R_getI dX12_readLawLine_101 fX12_200.r hG.o ?_
      refine topV (v := ((c : Nat) : Int)) (D4.1) ?_
      refine iastN dX12_readLawLine_104 hG.a1 rfl (by omega) ?_
      refine storH (fun h5 e5 => ?_)
      have D5 : LaM M h5 u n c := by rw [e5]; exact LaM.wl D4 (by omega) (by omega)
      have y5 : MvZ M h h5 := by rw [e5]; exact MvZ.wd y4 (by omega)
      have T5 : StM M h5 b L (k + 1 + 1) := by rw [e5]; exact StM.wd T4
      have w0_5 : h5 (M + 1) (1366 + 4 * n) = ((vbL (thT b L k))) := by rw [e5, updH_i (by omega)]; exact w0_4
      have w1_5 : h5 (M + 1) (1367 + 4 * n) = v3 := by rw [e5, updH_i (by omega)]; exact w1_4
      have w2_5 : h5 (M + 1) (1368 + 4 * n) = ((c : Nat) : Int) := by rw [e5, show ((1366 + (4 * n)) + 2) = 1368 + 4 * n by omega]; exact updH_s _ _ _ _
      refine aL0 dX12_readLawLine_105 ?_
      refine R_iconst_0 dX12_readLawLine_106 ?_
      refine R_putI dX12_readLawLine_107 fX12_225 hG.o ?_
      refine storH (fun h6 e6 => ?_)
      have D6 : LaM M h6 u n c := by rw [e6]; exact LaM.dp D5
      have y6 : MvZ M h h6 := by rw [e6]; exact MvZ.fl y5 (Or.inr (Or.inr (Or.inl rfl)))
      have T6 : StM M h6 b L (k + 1 + 1) := by rw [e6]; exact StM.dp T5
      have p6 : h6 M 13 = 0 := by rw [e6]; exact updH_s _ _ _ _
      have w0_6 : h6 (M + 1) (1366 + 4 * n) = ((vbL (thT b L k))) := by rw [e6, updH_a (by omega)]; exact w0_5
      have w1_6 : h6 (M + 1) (1367 + 4 * n) = v3 := by rw [e6, updH_a (by omega)]; exact w1_5
      have w2_6 : h6 (M + 1) (1368 + 4 * n) = ((c : Nat) : Int) := by rw [e6, updH_a (by omega)]; exact w2_5
      refine aL0 dX12_readLawLine_110 ?_
      refine R_ldcS (i := 24) dX12_readLawLine_111 rfl ?_
      refine invV1 rfl dX12_readLawLine_113 kX12_144 hG.o (Nat.le_of_ble_eq_true rfl) (Nat.zero_le _) (Nat.zero_le _) (C_X12_passes hG T6 24 20 (by decide) (by decide) sw_24 (fun h7 v7 m7 q7 => konI ?_))
      have D7 := m7.la D6
      have y7 : MvZ M h h7 := y6.tr m7.y.z
      have p7 : h7 M 13 = 0 := (m7 M 13 (by omega)).trans p6
      have w0_7 : h7 (M + 1) (1366 + 4 * n) = ((vbL (thT b L k))) := (m7 (M + 1) _ (by omega)).trans w0_6
      have w1_7 : h7 (M + 1) (1367 + 4 * n) = v3 := (m7 (M + 1) _ (by omega)).trans w1_6
      have w2_7 : h7 (M + 1) (1368 + 4 * n) = ((c : Nat) : Int) := (m7 (M + 1) _ (by omega)).trans w2_6
      refine R_if_eq dX12_readLawLine_116 (fun hb116 => ?_) (fun hb116 => ?_)
      · rcases q7 with ⟨z7, ⟨c7, b7, T7⟩ | ⟨c7, b7, T7⟩⟩
        · exfalso; omega
        refine aL0 dX12_readLawLine_128 ?_
        refine R_getR dX12_readLawLine_129 fX12_13.r hG.o rfl ?_
        refine iL2 dX12_readLawLine_132 ?_
        refine R_iconst_3 dX12_readLawLine_133 ?_
        refine addV dX12_readLawLine_134 (v := ((((1366 + (4 * n)) + 3) : Nat) : Int)) (by rw [wid (by omega) (by omega)]; omega) ?_
        refine aL0 dX12_readLawLine_135 ?_
        refine R_getI dX12_readLawLine_136 fX12_200.r hG.o ?_
        refine topV (v := ((c : Nat) : Int)) (D7.1) ?_
        refine iastN dX12_readLawLine_139 hG.a1 rfl (by omega) ?_
        refine storH (fun h8 e8 => ?_)
        have D8 : LaM M h8 u n c := by rw [e8]; exact LaM.wl D7 (by omega) (by omega)
        have y8 : MvZ M h h8 := by rw [e8]; exact MvZ.wd y7 (by omega)
        have T8 : StM M h8 b L (k + 1 + 1) := by rw [e8]; exact StM.wd T7
        have w0_8 : h8 (M + 1) (1366 + 4 * n) = ((vbL (thT b L k))) := by rw [e8, updH_i (by omega)]; exact w0_7
        have w1_8 : h8 (M + 1) (1367 + 4 * n) = v3 := by rw [e8, updH_i (by omega)]; exact w1_7
        have w2_8 : h8 (M + 1) (1368 + 4 * n) = ((c : Nat) : Int) := by rw [e8, updH_i (by omega)]; exact w2_7
        have w3_8 : h8 (M + 1) (1369 + 4 * n) = ((c : Nat) : Int) := by rw [e8, show ((1366 + (4 * n)) + 3) = 1369 + 4 * n by omega]; exact updH_s _ _ _ _
        refine R_iconst_1 dX12_readLawLine_140 ?_
        exact R_zret dX12_readLawLine_141 rfl (by decide) (K _ _ y8 (Or.inl ⟨rfl, _, _, _, lawLn_y vb.1 xb (show ¬ thT b L (k + 1 + 1) = 1020 by omega), T8, LaM.ln D8 (by omega) (w0_8.trans vb.2) (w1_8.trans xv) (w2_8.trans hst) w3_8⟩))
      · rcases q7 with ⟨z7, ⟨c7, b7, T7⟩ | ⟨c7, b7, T7⟩⟩
        rotate_left
        · exfalso; omega
        refine aL0 dX12_readLawLine_119 ?_
        refine invV0 rfl dX12_readLawLine_120 kX12_228 hG.o (Nat.le_of_ble_eq_true rfl) (Nat.zero_le _) (Nat.zero_le _) (C_condM hG T7 D7 (by omega) (by omega) p7 (by omega) (fun h9 v9 m9 q9 => konI ?_))
        have y9 : MvZ M h h9 := y7.tr m9.z
        have w0_9 : h9 (M + 1) (1366 + 4 * n) = ((vbL (thT b L k))) := (m9 (M + 1) _ (by omega) (by omega)).trans w0_7
        have w1_9 : h9 (M + 1) (1367 + 4 * n) = v3 := (m9 (M + 1) _ (by omega) (by omega)).trans w1_7
        have w2_9 : h9 (M + 1) (1368 + 4 * n) = ((c : Nat) : Int) := (m9 (M + 1) _ (by omega) (by omega)).trans w2_7
        refine R_if_ne dX12_readLawLine_123 (fun hb123 => ?_) (fun hb123 => ?_)
        · rcases q9 with ⟨b9, u9, c9, k9, r9, T9, D9, p9⟩ | ⟨b9, f9, r9, w9⟩
          rotate_left
          · exfalso; omega
          have kn9 := T9.kn
          obtain ⟨la9, lb9, lc9⟩ := cndL_le (atmL_le 6) _ _ _ _ _ _ r9
          have em0 : emC 0 false = 0 := rfl
          have hst9 : (c : Int) = if n = 0 then 0 else u9 (402 + 3 * (n - 1)) := by rw [cnd_k (atmL_le 6) (atm_k 6) _ _ _ _ _ _ r9 _ (Or.inr (by omega))]; exact hst
          refine aL0 dX12_readLawLine_128 ?_
          refine R_getR dX12_readLawLine_129 fX12_13.r hG.o rfl ?_
          refine iL2 dX12_readLawLine_132 ?_
          refine R_iconst_3 dX12_readLawLine_133 ?_
          refine addV dX12_readLawLine_134 (v := ((((1366 + (4 * n)) + 3) : Nat) : Int)) (by rw [wid (by omega) (by omega)]; omega) ?_
          refine aL0 dX12_readLawLine_135 ?_
          refine R_getI dX12_readLawLine_136 fX12_200.r hG.o ?_
          refine topV (v := ((c9 : Nat) : Int)) (D9.1) ?_
          refine iastN dX12_readLawLine_139 hG.a1 rfl (by omega) ?_
          refine storH (fun h10 e10 => ?_)
          have D10 : LaM M h10 u9 n c9 := by rw [e10]; exact LaM.wl D9 (by omega) (by omega)
          have y10 : MvZ M h h10 := by rw [e10]; exact MvZ.wd y9 (by omega)
          have T10 : StM M h10 b L k9 := by rw [e10]; exact StM.wd T9
          have w0_10 : h10 (M + 1) (1366 + 4 * n) = ((vbL (thT b L k))) := by rw [e10, updH_i (by omega)]; exact w0_9
          have w1_10 : h10 (M + 1) (1367 + 4 * n) = v3 := by rw [e10, updH_i (by omega)]; exact w1_9
          have w2_10 : h10 (M + 1) (1368 + 4 * n) = ((c : Nat) : Int) := by rw [e10, updH_i (by omega)]; exact w2_9
          have w3_10 : h10 (M + 1) (1369 + 4 * n) = ((c9 : Nat) : Int) := by rw [e10, show ((1366 + (4 * n)) + 3) = 1369 + 4 * n by omega]; exact updH_s _ _ _ _
          refine R_iconst_1 dX12_readLawLine_140 ?_
          exact R_zret dX12_readLawLine_141 rfl (by decide) (K _ _ y10 (Or.inl ⟨rfl, _, _, _, lawLn_iy vb.1 xb (show thT b L (k + 1 + 1) = 1020 by omega) r9, T10, LaM.ln D10 (by omega) (w0_10.trans vb.2) (w1_10.trans xv) (w2_10.trans hst9) w3_10⟩))
        · rcases q9 with ⟨b9, u9, c9, k9, r9, T9, D9, p9⟩ | ⟨b9, f9, r9, w9⟩
          · exfalso; omega
          refine R_iconst_0 dX12_readLawLine_126 ?_
          exact R_zret dX12_readLawLine_127 rfl (by decide) (K _ _ y9 (Or.inr ⟨rfl, _, lawLn_if vb.1 xb (show thT b L (k + 1 + 1) = 1020 by omega) r9, w9⟩))
    · exfalso; have := (q3.y ok3).1; have := (q3.y ok3).2.1; omega
  · refine R_iconst_0 dX12_readLawLine_63 ?_
    exact R_zret dX12_readLawLine_64 rfl (by decide) (K _ _ y2 (Or.inr ⟨rfl, _, lawLn_n (vbL_n (by omega)), L2.2.1⟩))
set_option maxHeartbeats 400000 in
theorem C_X12_readLine_l {d : Nat} {g : Gs} {h : Hc} {P : Po} {M : Nat} (hG : MdG g M) {b : Nat → Int} {L : Nat} {k : Nat} (hT : StM M h b L k) {u : Nat → Int} {n c : Nat} (hD : LaM M h u n c) (hn : n ≤ 12) (hck : c ≤ k) (hst : (c : Int) = if n = 0 then 0 else u (402 + 3 * (n - 1))) (K : ∀ h' (v : Int), MvZ M h h' → LqM M h' b L n v (if 12 ≤ n then .inl k else lawLn (thT b L) u n c k) → P (.inl (some (vI v))) g h') : Call (d + 30) 0 0 mX12_readLine [vR M, vI 0, vI ((n : Nat) : Int)] g h P := by
  refine Call_of rfl ⟨by decide +kernel, rfl⟩ (Nat.le_of_ble_eq_true rfl) rfl ?_
  refine aL0 dX12_readLine_0 ?_
  refine invV0 rfl dX12_readLine_1 kX12_134 hG.o (Nat.le_of_ble_eq_true rfl) (Nat.zero_le _) (Nat.zero_le _) (C_letters hG hT (fun h1 m1 hL1 => konV ?_))
  have D1 := m1.la hD
  refine iL2 dX12_readLine_4 ?_
  refine iL1 dX12_readLine_5 ?_
  refine R_if_eq dX12_readLine_6 (fun _ => ?_) (fun hb => absurd hb (by decide))
  refine R_bipush dX12_readLine_14 (by decide) ?_
  refine R_icmp_ge dX12_readLine_16 (fun hb16 => ?_) (fun hb16 => ?_)
  · refine R_iconst_0 dX12_readLine_45 ?_
    exact R_zret dX12_readLine_46 rfl (by decide) (K _ _ m1.y.z (Or.inr ⟨rfl, k, if_pos (by omega), hL1.2.1⟩))
  · refine iL1 dX12_readLine_19 ?_
    refine R_if_eq dX12_readLine_20 (fun _ => ?_) (fun hb => absurd hb (by decide))
    refine aL0 dX12_readLine_33 ?_
    refine iL2 dX12_readLine_34 ?_
    refine invV1 rfl dX12_readLine_35 kX12_260 hG.o (Nat.le_of_ble_eq_true rfl) (Nat.zero_le _) (Nat.zero_le _) (C_X12_readLawLine hG hL1 D1 (by omega) hck hst (fun h2 v2 m2 q2 => konI ?_))
    refine R_if_eq dX12_readLine_38 (fun hb38 => ?_) (fun hb38 => ?_)
    · refine R_iconst_0 dX12_readLine_45 ?_
      exact R_zret dX12_readLine_46 rfl (by decide) (PeqI (K _ _ (m1.y.z.tr m2) (by rw [if_neg (by omega)]; exact q2)) (by have := q2.b; omega))
    · refine R_iconst_1 dX12_readLine_41 ?_
      refine R_goto dX12_readLine_42 ?_
      exact R_zret dX12_readLine_46 rfl (by decide) (PeqI (K _ _ (m1.y.z.tr m2) (by rw [if_neg (by omega)]; exact q2)) (by have := q2.b; omega))
def MvS (M : Nat) (h h' : Hc) : Prop := Off (fun a => mqs M a ∨ a = M + 1) h h' ∧ (∀ i, i = 6 ∨ i = 7 ∨ i = 14 → h' M i = h M i) ∧ h' M 9 = 0 ∧ h' M 0 = 0 ∧ ∀ i, i < 1365 → h' (M + 1) i = h (M + 1) i
theorem MvS.z {M : Nat} {h h1 h2 : Hc} (p : MvS M h h1) (q : MvZ M h1 h2) : MvS M h h2 := by
  refine ⟨p.1.tr (fun a ha => funext fun i => q a i (fun q9 => ha (Or.inl (Or.inl q9.1))) (fun q9 => ha (Or.inr q9.1))), fun i hi => ?_, ?_, ?_, fun i hi => ?_⟩
  · rw [q M i (by omega) (by omega)]; exact p.2.1 i hi
  · rw [q M 9 (by omega) (by omega)]; exact p.2.2.1
  · rw [q M 0 (by omega) (by omega)]; exact p.2.2.2.1
  · rw [q (M + 1) i (by omega) (by omega)]; exact p.2.2.2.2 i hi
def LlM (M : Nat) (h : Hc) (b : Nat → Int) (L : Nat) (v : Int) (R : Nat ⊕ LsT) : Prop := (∃ (u : Nat → Int) (n c : Nat), v = (n : Int) ∧ R = .inr (u, n, c) ∧ LaM M h u n c ∧ n ≤ 12 ∧ c ≤ 400) ∨ (v = -1 ∧ ∃ f, R = .inl f ∧ WrM M h b L f)
theorem lw_f {t u : Nat → Int} {n c k f : Nat} (hn : n ≤ 12) (h : (if 12 ≤ n then .inl k else lawLn t u n c k) = .inl f) : lawAll t (12 - n) u n c k = .inl f := by
  by_cases q : 12 ≤ n
  · rw [if_pos q] at h
    cases h
    rw [show 12 - n = 0 by omega]
    rfl
  · rw [if_neg q] at h
    rw [show 12 - n = (11 - n) + 1 by omega]
    exact lawAll_f h
theorem ln_end {t u u1 : Nat → Int} {n c k c1 k1 : Nat} (h : lawLn t u n c k = .inr (u1, c1, k1)) : u1 (402 + 3 * n) = (c1 : Int) := by
  by_cases h0 : 1017 ≤ t k ∧ t k ≤ 1019
  · by_cases h1 : 0 ≤ t (k + 1) ∧ t (k + 1) ≤ 99
    · by_cases h2 : t (k + 2) = 1020
      · cases hq : cndL t (atmL t 6) 400 false false u c (k + 3) with
        | inl f => rw [lawLn_if h0 h1 h2 hq] at h; exact nomatch h
        | inr R =>
          obtain ⟨u2, c2, k2⟩ := R
          rw [lawLn_iy h0 h1 h2 hq] at h
          cases h
          unfold lnU
          exact updW_s _ _ _
      · rw [lawLn_y h0 h1 h2] at h
        cases h
        unfold lnU
        exact updW_s _ _ _
    · rw [lawLn_a h0 h1] at h; exact nomatch h
  · rw [lawLn_n h0] at h; exact nomatch h
set_option maxHeartbeats 1000000 in
theorem C_X12_readAll_l {d : Nat} {g : Gs} {h : Hc} {P : Po} {M : Nat} (hG : MdG g M) {b : Nat → Int} {L : Nat} (hN : h M 9 = (L : Int)) (hL4 : L ≤ 400) (hB : ∀ i, i < L → h (M + 6) i = wrapB (b i) ∧ (0 ≤ b i ∧ b i ≤ 255)) (K : ∀ h' (v : Int), MvS M h h' → LlM M h' b L v (lawTx (thT b L)) → P (.inl (some (vI v))) g h') : Call (d + 31) 0 0 mX12_readAll [vR M, vI 0] g h P := by
  refine Call_of rfl ⟨by decide +kernel, rfl⟩ (Nat.le_of_ble_eq_true rfl) rfl ?_
  refine aL0 dX12_readAll_0 ?_
  refine invV0 rfl dX12_readAll_1 kX12_263 hG.o (Nat.le_of_ble_eq_true rfl) (Nat.zero_le _) (Nat.zero_le _) (C_X12_uses hG rfl hN (fun h1 hU hp0 => konV ?_))
  refine aL0 dX12_readAll_4 ?_
  refine R_iconst_0 dX12_readAll_5 ?_
  refine R_putI dX12_readAll_6 fX12_200 hG.o ?_
  refine storH (fun h11 e11 => ?_)
  have hR0 : MvS M h h11 := by rw [e11]; exact ⟨(hU.1.mono (fun a ha => Or.inl ha)).upd (Or.inl (Or.inl rfl)), fun i hi => by rw [updH_i (by omega)]; exact hU.2.1 i (by omega) (by omega) (by omega) (by omega) (by omega), by rw [updH_i (by decide)]; exact hU.2.2.2.1, by rw [updH_i (by decide)]; exact hU.2.2.1, fun i hi => by rw [updH_a (by omega)]; exact congrFun (hU.1 (M + 1) (by unfold mqs; omega)) i⟩
  have hDa : LaM M h11 (fun _ => 0) 0 0 := by rw [e11]; exact ⟨updH_s _ _ _ _, fun i hi => absurd hi (Nat.not_lt_zero _), fun i hi => absurd hi (Nat.not_lt_zero _)⟩
  have hSa : StM M h11 b L 0 := ⟨0, by rw [e11]; exact ⟨by rw [updH_i (by decide)]; exact hp0, by rw [updH_i (by decide)]; exact hU.2.2.2.2, Nat.zero_le _, hL4, fun i hi => by rw [updH_a (by omega), hU.t]; exact hB i hi⟩, rfl, fun i hi => absurd hi (Nat.not_lt_zero _)⟩
  refine aL0 dX12_readAll_9 ?_
  refine invV0 rfl dX12_readAll_10 kX12_122 hG.o (Nat.le_of_ble_eq_true rfl) (Nat.zero_le _) (Nat.zero_le _) (C_blanks hG hSa (fun h2 m2 hB2 => konV ?_))
  have hD2 := m2.la hDa
  refine aL0 dX12_readAll_13 ?_
  refine R_getI dX12_readAll_14 fX12_109.r hG.o ?_
  refine topV (v := (((stT b L 0) : Nat) : Int)) (hB2.1.1) ?_
  refine aL0 dX12_readAll_17 ?_
  refine R_getI dX12_readAll_18 fX12_112.r hG.o ?_
  refine topV (v := ((L : Nat) : Int)) (hB2.1.2.1) ?_
  refine R_icmp_ne dX12_readAll_21 (fun hb21 => ?_) (fun hb21 => ?_)
  · have h0 : ¬ thT b L 0 = -1 := thT_go hB2.1.b0 (by omega)
    have hA : lawTx (thT b L) = lawAll (thT b L) 12 (fun _ => 0) 0 0 0 := if_neg h0
    refine R_iconst_0 dX12_readAll_26 ?_
    refine iS2 dX12_readAll_27 ?_
    refine loopN 12 (fun n => ∀ (hh : Hc) (u : Nat → Int) (c k : Nat), MvS M h hh → StM M hh b L k → LaM M hh u n c → c ≤ k → ((c : Int) = if n = 0 then 0 else u (402 + 3 * (n - 1))) → lawAll (thT b L) (12 - n) u n c k = lawAll (thT b L) 12 (fun _ => 0) 0 0 0 → Run (d + 31) 0 0 mX12_readAll 28 [vR M, vI 0, vI ((n : Nat) : Int)] [] g hh P) (fun n hcn ihn hh u c k hR9 hT9 hD9 hck hst hE => ?_) 0 (Nat.zero_le _) h2 (fun _ => 0) 0 0 (hR0.z m2.y.z) hB2.st hD2 (Nat.le_refl _) rfl rfl
    refine aL0 dX12_readAll_28 ?_
    refine iL1 dX12_readAll_29 ?_
    refine iL2 dX12_readAll_30 ?_
    refine invV2 rfl dX12_readAll_31 kX12_266 hG.o (Nat.le_of_ble_eq_true rfl) (Nat.zero_le _) (Nat.zero_le _) (C_X12_readLine_l hG hT9 hD9 hcn hck hst (fun h3 v3 m3 q3 => konI ?_))
    refine R_if_ne dX12_readAll_34 (fun hb34 => ?_) (fun hb34 => ?_)
    · rcases q3 with ⟨a3, u3, c3, k3, r3, T3, hD3⟩ | ⟨a3, f3, r3, z3⟩
      rotate_left
      · exfalso; omega
      have hn12 : n < 12 := Nat.lt_of_not_le fun q9 => by rw [if_pos q9] at r3; exact nomatch r3
      rw [if_neg (by omega)] at r3
      have hm : 12 - n = (11 - n) + 1 := by omega
      obtain ⟨la3, lb3, lc3⟩ := lawLn_le r3
      have kn3 := T3.kn
      refine aL0 dX12_readAll_39 ?_
      refine invV0 rfl dX12_readAll_40 kX12_122 hG.o (Nat.le_of_ble_eq_true rfl) (Nat.zero_le _) (Nat.zero_le _) (C_blanks hG T3 (fun h4 m4 hB4 => konV ?_))
      have hD4 := m4.la hD3
      refine aL0 dX12_readAll_43 ?_
      refine R_getI dX12_readAll_44 fX12_109.r hG.o ?_
      refine topV (v := (((stT b L k3) : Nat) : Int)) (hB4.1.1) ?_
      refine aL0 dX12_readAll_47 ?_
      refine R_getI dX12_readAll_48 fX12_112.r hG.o ?_
      refine topV (v := ((L : Nat) : Int)) (hB4.1.2.1) ?_
      refine R_icmp_ne dX12_readAll_51 (fun hb51 => ?_) (fun hb51 => ?_)
      · refine aL0 dX12_readAll_58 ?_
        refine R_bipush dX12_readAll_59 (by decide) ?_
        refine R_bipush dX12_readAll_61 (by decide) ?_
        refine invV2 rfl dX12_readAll_63 kX12_115 hG.o (Nat.le_of_ble_eq_true rfl) (Nat.zero_le _) (Nat.zero_le _) (C_X12_isAt hG hB4.1 (by decide) (by decide) (konI ?_))
        refine R_ifB_ne dX12_readAll_66 (fun hb66 => ?_) (fun hb66 => ?_)
        · have hat := atB_iff.mp hb66
          refine aL0 dX12_readAll_71 ?_
          refine dupR dX12_readAll_72 ?_
          refine R_getI dX12_readAll_73 fX12_109.r hG.o ?_
          refine topV (v := (((stT b L k3) : Nat) : Int)) (hB4.1.1) ?_
          refine R_iconst_1 dX12_readAll_76 ?_
          refine addV dX12_readAll_77 (v := ((((stT b L k3) + 1) : Nat) : Int)) (by rw [wid (by omega) (by omega)]; omega) ?_
          refine R_putI dX12_readAll_78 fX12_109 hG.o ?_
          refine storH (fun h12 e12 => ?_)
          refine iInc2 dX12_readAll_81 (winc (by omega)) ?_
          refine R_goto dX12_readAll_84 ?_
          subst e12
          exact ihn (by omega) _ u3 c3 (k3 + 1) ((hR9.z m3).z (m4.y.z.fl (Or.inl rfl))) ⟨_, hB4.1.pt (p' := stT b L k3 + 1) (by have := (atB_iff.mp hb66).1; omega), en_s (c := 59) (by decide) hb66, hB4.2.2.s (atB_iff.mp hb66).1⟩ (hD4.o (updH_i (by decide)) (updH_a (by omega))) (by omega) (by rw [if_neg (by omega), show n + 1 - 1 = n by omega]; exact (ln_end r3).symm) (by rw [← hE, hm, lawAll_m r3 (thT_go hB4.1.b0 (by omega)) ((th_s hB4.1.b0 (c := 59) (by decide)).mpr hb66), show 12 - (n + 1) = 11 - n by omega])
        · refine R_iconst_m1 dX12_readAll_69 ?_
          exact R_iret dX12_readAll_70 rfl (K _ _ ((hR9.z m3).z m4.y.z) (Or.inr ⟨rfl, k3, by rw [hA, ← hE, hm]; exact lawAll_n r3 (thT_go hB4.1.b0 (by omega)) (fun q9 => by rw [(th_s hB4.1.b0 (c := 59) (by decide)).mp q9] at hb66; exact absurd hb66 (by decide)), hB4.2.1⟩))
      · refine iL2 dX12_readAll_54 ?_
        refine R_iconst_1 dX12_readAll_55 ?_
        refine addV dX12_readAll_56 (v := (((n + 1) : Nat) : Int)) (by rw [wid (by omega) (by omega)]; omega) ?_
        exact R_iret dX12_readAll_57 rfl (K _ _ ((hR9.z m3).z m4.y.z) (Or.inl ⟨u3, n + 1, c3, rfl, by rw [hA, ← hE, hm]; exact lawAll_e r3 (thT_end (by omega)), hD4, by omega, by omega⟩))
    · rcases q3 with ⟨a3, u3, c3, k3, r3, T3, hD3⟩ | ⟨a3, f3, r3, z3⟩
      · exfalso; omega
      refine R_iconst_m1 dX12_readAll_37 ?_
      exact R_iret dX12_readAll_38 rfl (K _ _ (hR9.z m3) (Or.inr ⟨rfl, f3, by rw [hA, ← hE]; exact lw_f hcn r3, z3⟩))
  · refine R_iconst_0 dX12_readAll_24 ?_
    exact R_iret dX12_readAll_25 rfl (K _ _ (hR0.z m2.y.z) (Or.inl ⟨_, 0, 0, rfl, if_pos (thT_end (by omega)), hD2, by decide, by decide⟩))
/-- the row w tells n lines and c steps of u as its law -/
def RwU (w u : Nat → Int) (n c : Nat) : Prop := w 3 = 1 ∧ w 516 = (n : Int) ∧ (∀ i, i < c → w (565 + 2 * i) = mcd (u i) ∧ w (566 + 2 * i) = mnu (u i)) ∧ ∀ i, i < n → w (517 + 4 * i) = u (400 + 3 * i) - 1017 ∧ w (518 + 4 * i) = u (401 + 3 * i) ∧ w (519 + 4 * i) = (if i = 0 then 0 else u (402 + 3 * (i - 1))) ∧ w (520 + 4 * i) = u (402 + 3 * i)
abbrev Fl (M : Nat) (h h' : Hc) : Prop := Off (fun a => mqs M a ∨ a = M + 1) h h' ∧ h' M 6 = h M 6 ∧ h' M 9 = 0
theorem RwU.of {M : Nat} {h2 : Hc} {u w W : Nat → Int} {n c : Nat} (q : LaM M h2 u n c) (hn : n ≤ 12) (hc : c ≤ 400) (hW : ∀ i, i ≠ 1365 → W i = h2 (M + 1) i) (hWn : W 1365 = (n : Int)) (h3 : w 3 = 1) (e : ∀ i, 516 ≤ i → i < 1365 → w i = W (i + 849)) : RwU w u n c := by
  obtain ⟨q0, q1, q2⟩ := q
  have f : ∀ i, 516 < i → i < 1365 → w i = h2 (M + 1) (i + 849) := fun i h1 h2 => by rw [e i (by omega) h2, hW _ (by omega)]
  refine ⟨h3, by rw [e 516 (by omega) (by omega)]; exact hWn, fun i hi => ?_, fun i hi => ?_⟩
  · rw [f _ (by omega) (by omega), f _ (by omega) (by omega), show 565 + 2 * i + 849 = 1414 + 2 * i by omega, show 566 + 2 * i + 849 = 1415 + 2 * i by omega]
    exact q1 i hi
  · rw [f _ (by omega) (by omega), f _ (by omega) (by omega), f _ (by omega) (by omega), f _ (by omega) (by omega), show 517 + 4 * i + 849 = 1366 + 4 * i by omega, show 518 + 4 * i + 849 = 1367 + 4 * i by omega, show 519 + 4 * i + 849 = 1368 + 4 * i by omega, show 520 + 4 * i + 849 = 1369 + 4 * i by omega]
    exact q2 i hi
set_option maxHeartbeats 1000000 in
theorem C_X12_law {d : Nat} {g : Gs} {h : Hc} {P : Po} {M : Nat} (hG : MdG g M) {b : Nat → Int} {L : Nat} (hN : h M 9 = (L : Int)) (hL4 : L ≤ 400) (hB : ∀ i, i < L → h (M + 6) i = wrapB (b i) ∧ (0 ≤ b i ∧ b i ≤ 255)) (KE1 : ∀ h' f, Fl M h h' → h' M 7 = h M 7 → lawTx (thT b L) = .inl f → (∀ i, i < 1365 → h' (M + 1) i = h (M + 1) i) → h' M 14 = ((stT b L f : Nat) : Int) → h' M 0 = 1 → P (.inl (some (vI 0))) g h') (K1 : ∀ h' u n c, Fl M h h' → h' M 7 = 0 → lawTx (thT b L) = .inr (u, n, c) → n ≤ 12 → c ≤ 400 → (∀ i, i < 516 → i ≠ 3 → h' (M + 1) i = h (M + 1) i) → RwU (h' (M + 1)) u n c → h' M 14 = -1 → h' M 0 = 0 → P (.inl (some (vI ((n : Nat) : Int)))) g h') : Call (d + 32) 0 0 mX12_law [vR M] g h P := by
  refine Call_of rfl ⟨by decide +kernel, rfl⟩ (Nat.le_of_ble_eq_true rfl) rfl ?_
  refine aL0 dX12_law_0 ?_
  refine R_iconst_0 dX12_law_1 ?_
  refine invV1 rfl dX12_law_2 kX12_270 hG.o (Nat.le_of_ble_eq_true rfl) (Nat.zero_le _) (Nat.zero_le _) (C_X12_readAll_l hG hN hL4 hB (fun h2 v2 hR2 q2 => konI ?_))
  refine iS1 dX12_law_5 ?_
  rcases q2 with ⟨u2, n2, c2, a2, r2, hD2, hn2, hc2⟩ | ⟨a2, f2, r2, z2⟩
  · subst a2
    refine aL0 dX12_law_6 ?_
    refine iL1 dX12_law_7 ?_
    refine R_if_ge dX12_law_8 (fun hb8 => ?_) (fun hb8 => ?_)
    · refine R_iconst_m1 dX12_law_18 ?_
      refine R_putI dX12_law_19 fX12_33 hG.o ?_
      refine storH (fun h21 e21 => ?_)
      have hFa : Off (fun a => mqs M a ∨ a = M + 1) h h21 := by rw [e21]; exact hR2.1.upd (Or.inl (Or.inl rfl))
      have h67a : ∀ i, i = 6 ∨ i = 7 → h21 M i = h M i := fun i hi => by rw [e21, updH_i (by omega)]; exact hR2.2.1 i (by omega)
      have h90a : h21 M 9 = 0 ∧ h21 M 0 = 0 := by rw [e21, updH_i (by decide), updH_i (by decide)]; exact ⟨hR2.2.2.1, hR2.2.2.2.1⟩
      have hfa : h21 M 14 = (-1) := by rw [e21]; exact updH_s _ _ _ _
      have hWa : ∀ i, h21 (M + 1) i = h2 (M + 1) i := fun i => by rw [e21, updH_a (by omega)]
      refine aL0 dX12_law_22 ?_
      refine iL1 dX12_law_23 ?_
      refine R_if_ge dX12_law_24 (fun hb24 => ?_) (fun hb24 => ?_)
      · refine R_iconst_0 dX12_law_31 ?_
        refine R_iconst_1 dX12_law_32 ?_
        refine invV2 rfl dX12_law_33 kX12_274 hG.o (Nat.le_of_ble_eq_true rfl) (Nat.zero_le _) (Nat.zero_le _) (C_X12_throwsIf hG (b := false) (fun h22 hth22 => konI ?_))
        refine topV (v := 0) rfl ?_
        have eT22 : h21 = h22 := (hth22.trans (if_neg (by decide))).symm
        subst eT22
        refine R_if_eq dX12_law_36 (fun _ => ?_) (fun hb => absurd hb (by decide))
        refine aL0 dX12_law_41 ?_
        refine R_getR dX12_law_42 fX12_13.r hG.o rfl ?_
        refine R_sipush dX12_law_45 (by decide) ?_
        refine iL1 dX12_law_48 ?_
        refine iastN (k := 1365) dX12_law_49 hG.a1 rfl (by decide) ?_
        refine storH (fun h23 e23 => ?_)
        refine R_iconst_0 dX12_law_50 ?_
        refine iS2 dX12_law_51 ?_
        obtain ⟨W, hW⟩ : ∃ W, h23 (M + 1) = W := ⟨_, rfl⟩
        have hWb : ∀ i, i ≠ 1365 → W i = h2 (M + 1) i := fun i hi => by rw [← hW, e23, updH_i hi]; exact hWa i
        have hWn : W 1365 = (n2 : Int) := by rw [← hW, e23]; exact updH_s _ _ _ _
        have hFb : Off (fun a => a = M + 1) h21 h23 := by rw [e23]; exact (Off.rf _ _).upd rfl
        refine loopN 849 (fun q => ∀ hh : Hc, Off (fun a => a = M + 1) h21 hh → hh (M + 1) = (fun i => if 516 ≤ i ∧ i < 516 + q then W (i + 849) else W i) → Run (d + 32) 0 0 mX12_law 52 [vR M, vI ((n2 : Nat) : Int), vI ((q : Nat) : Int)] [] g hh P) (fun q hcq ihq hh hO9 hR9 => ?_) 0 (Nat.zero_le _) h23 hFb (by rw [hW]; funext i; rw [if_neg (by omega)])
        refine iL2 dX12_law_52 ?_
        refine R_sipush dX12_law_53 (by decide) ?_
        refine R_icmp_ge dX12_law_56 (fun hb56 => ?_) (fun hb56 => ?_)
        · have hq : q = 849 := by omega
          subst hq
          refine aL0 dX12_law_85 ?_
          refine R_getR dX12_law_86 fX12_13.r hG.o rfl ?_
          refine R_iconst_3 dX12_law_89 ?_
          refine R_iconst_1 dX12_law_90 ?_
          refine iastN (k := 3) dX12_law_91 hG.a1 rfl (by decide) ?_
          refine storH (fun h24 e24 => ?_)
          refine aL0 dX12_law_92 ?_
          refine R_iconst_0 dX12_law_93 ?_
          refine R_putI dX12_law_94 fX12_77 hG.o ?_
          refine storH (fun h25 e25 => ?_)
          refine iL1 dX12_law_97 ?_
          exact R_iret dX12_law_98 rfl (K1 _ u2 n2 c2 ⟨by rw [e25, e24]; exact ((hFa.tr (hO9.mono (fun a ha => Or.inr ha))).upd (Or.inr rfl)).upd (Or.inl (Or.inl rfl)), by rw [e25, updH_i (by decide), e24, updH_a (by omega), hO9 M (by omega)]; exact h67a 6 (by omega), by rw [e25, updH_i (by decide), e24, updH_a (by omega), hO9 M (by omega)]; exact h90a.1⟩ (by rw [e25]; exact updH_s _ _ _ _) r2 hn2 hc2 (fun i hi h3 => by rw [e25, updH_a (by omega), e24, updH_i h3, hR9]; exact (if_neg (by omega)).trans ((hWb i (by omega)).trans (hR2.2.2.2.2 i (by omega)))) (RwU.of hD2 hn2 hc2 hWb hWn (w := _) (by rw [e25, updH_a (by omega), e24]; exact updH_s _ _ _ _) (fun i h9 h8 => by rw [e25, updH_a (by omega), e24, updH_i (by omega), hR9]; exact if_pos (by omega))) (by rw [e25, updH_i (by decide), e24, updH_a (by omega), hO9 M (by omega)]; exact hfa) (by rw [e25, updH_i (by decide), e24, updH_a (by omega), hO9 M (by omega)]; exact h90a.2))
        · refine aL0 dX12_law_59 ?_
          refine R_getR dX12_law_60 fX12_13.r hG.o rfl ?_
          refine R_sipush dX12_law_63 (by decide) ?_
          refine iL2 dX12_law_66 ?_
          refine addV dX12_law_67 (v := (((516 + q) : Nat) : Int)) (by rw [wid (by omega) (by omega)]; omega) ?_
          refine aL0 dX12_law_68 ?_
          refine R_getR dX12_law_69 fX12_13.r hG.o rfl ?_
          refine R_sipush dX12_law_72 (by decide) ?_
          refine iL2 dX12_law_75 ?_
          refine addV dX12_law_76 (v := (((1365 + q) : Nat) : Int)) (by rw [wid (by omega) (by omega)]; omega) ?_
          refine ialdN dX12_law_77 hG.a1 rfl (by omega) ?_
          refine topV (v := W (1365 + q)) (by rw [hR9]; exact if_neg (by omega)) ?_
          refine iastN dX12_law_78 hG.a1 rfl (by omega) ?_
          refine storH (fun h26 e26 => ?_)
          refine iInc2 dX12_law_79 (winc (by omega)) ?_
          refine R_goto dX12_law_82 ?_
          exact ihq (by omega) _ (by rw [e26]; exact hO9.upd rfl) (by
              rw [e26, updH_r, hR9]
              funext i
              unfold updW
              by_cases e8 : i = 516 + q
              · rw [if_pos e8, if_pos (by omega), e8, show 516 + q + 849 = 1365 + q by omega]
              · rw [if_neg e8]
                show (if 516 ≤ i ∧ i < 516 + q then W (i + 849) else W i) = _
                by_cases e7 : 516 ≤ i ∧ i < 516 + q
                · rw [if_pos e7, if_pos (by omega)]
                · rw [if_neg e7, if_neg (by omega)])
      · exfalso; omega
    · exfalso; omega
  · subst a2
    refine aL0 dX12_law_6 ?_
    refine iL1 dX12_law_7 ?_
    refine R_if_ge dX12_law_8 (fun hb => absurd hb (by decide)) (fun _ => ?_)
    refine aL0 dX12_law_11 ?_
    refine R_getI dX12_law_12 fX12_119.r hG.o ?_
    refine topV (v := (((stT b L f2) : Nat) : Int)) (z2) ?_
    refine R_goto dX12_law_15 ?_
    refine R_putI dX12_law_19 fX12_33 hG.o ?_
    refine storH (fun h27 e27 => ?_)
    have hFa : Off (fun a => mqs M a ∨ a = M + 1) h h27 := by rw [e27]; exact hR2.1.upd (Or.inl (Or.inl rfl))
    have h67a : ∀ i, i = 6 ∨ i = 7 → h27 M i = h M i := fun i hi => by rw [e27, updH_i (by omega)]; exact hR2.2.1 i (by omega)
    have h90a : h27 M 9 = 0 ∧ h27 M 0 = 0 := by rw [e27, updH_i (by decide), updH_i (by decide)]; exact ⟨hR2.2.2.1, hR2.2.2.2.1⟩
    have hfa : h27 M 14 = (((stT b L f2) : Nat) : Int) := by rw [e27]; exact updH_s _ _ _ _
    have hWa : ∀ i, h27 (M + 1) i = h2 (M + 1) i := fun i => by rw [e27, updH_a (by omega)]
    refine aL0 dX12_law_22 ?_
    refine iL1 dX12_law_23 ?_
    refine R_if_ge dX12_law_24 (fun hb => absurd hb (by decide)) (fun _ => ?_)
    refine R_iconst_1 dX12_law_27 ?_
    refine R_goto dX12_law_28 ?_
    refine R_iconst_1 dX12_law_32 ?_
    refine invV2 rfl dX12_law_33 kX12_274 hG.o (Nat.le_of_ble_eq_true rfl) (Nat.zero_le _) (Nat.zero_le _) (C_X12_throwsIf hG (b := true) (fun h28 hth28 => konI ?_))
    refine topV (v := 1) rfl ?_
    have eT : h28 = updH h27 M 0 1 := hth28.trans (if_pos rfl)
    refine R_if_eq dX12_law_36 (fun hb => absurd hb (by decide)) (fun _ => ?_)
    refine R_iconst_0 dX12_law_39 ?_
    exact R_iret dX12_law_40 rfl (KE1 _ f2 ⟨by rw [eT]; exact hFa.upd (Or.inl (Or.inl rfl)), by rw [eT, updH_i (by decide)]; exact h67a 6 (by omega), by rw [eT, updH_i (by decide)]; exact h90a.1⟩ (by rw [eT, updH_i (by decide)]; exact h67a 7 (by omega)) r2 (fun i hi => by rw [eT, updH_a (by omega), hWa]; exact hR2.2.2.2.2 i hi) (by rw [eT, updH_i (by decide)]; exact hfa) (by rw [eT]; exact updH_s _ _ _ _))
