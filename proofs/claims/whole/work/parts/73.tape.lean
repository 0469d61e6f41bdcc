/-! READING, BY THE CLASS -/
/-- the things lie in their arrays; the k-th is next -/
def TpC (h : Hc) (X : Nat) (b : Nat → Int) (L N k : Nat) : Prop := N ≤ 400 ∧ k ≤ N ∧ stT b L N = L ∧ (∀ i, i < N → stT b L i < L) ∧ (∀ i, i ≤ N → h (X + 3) i = thT b L i ∧ h (X + 4) i = ((stT b L i : Nat) : Int)) ∧ h (X + 1) 4 = (k : Int) ∧ (∀ i, i < L → 0 ≤ b i ∧ b i ≤ 255) ∧ h (X + 1) 5 = -1
def Mv (X : Nat) (h h' : Hc) : Prop := ∀ a i, ¬ (a = X + 1 ∧ (i = 4 ∨ i = 5)) → h' a i = h a i
def Wr (h : Hc) (X : Nat) (b : Nat → Int) (L f : Nat) : Prop := h (X + 1) 5 = ((stT b L f : Nat) : Int)
theorem Mv.rf {X : Nat} {h : Hc} : Mv X h h := fun _ _ _ => rfl
theorem Mv.tr {X : Nat} {h1 h2 h3 : Hc} (p : Mv X h1 h2) (q : Mv X h2 h3) : Mv X h1 h3 := fun a i n => (q a i n).trans (p a i n)
theorem Mv.up {X i : Nat} {h : Hc} {v : Int} (hi : i = 4 ∨ i = 5) : Mv X h (updH h (X + 1) i v) := by
  intro a j n
  by_cases e : a = X + 1
  · subst e
    exact updH_i (fun e2 => n ⟨rfl, by rw [e2]; exact hi⟩)
  · rw [updH_a e]
theorem Mv.a {X a : Nat} {h h' : Hc} (p : Mv X h h') (ha : a ≠ X + 1) : h' a = h a := funext fun i => p a i (fun q => ha q.1)
theorem Mv.off {X : Nat} {h h' : Hc} (p : Mv X h h') : Off (fun q => q = X + 1) h h' := fun a ha => p.a ha
theorem TpC.mv {h h' : Hc} {X : Nat} {b : Nat → Int} {L N k k' : Nat} (q : TpC h X b L N k) (m : Mv X h h') (hk : k' ≤ N) (e : h' (X + 1) 4 = (k' : Int)) (e5 : h' (X + 1) 5 = h (X + 1) 5) : TpC h' X b L N k' := by
  obtain ⟨q1, q2, q3, q4, q5, q6, q7, q8⟩ := q
  refine ⟨q1, hk, q3, q4, fun i hi => ?_, e, q7, e5.trans q8⟩
  rw [m.a (by omega), m.a (by omega)]
  exact q5 i hi
theorem TpC.fin {h : Hc} {X : Nat} {b : Nat → Int} {L N k : Nat} (q : TpC h X b L N k) : thT b L N = -1 := by
  unfold thT thS
  rw [q.2.2.1, if_pos (Nat.le_refl _)]
theorem TpC.lt {h : Hc} {X : Nat} {b : Nat → Int} {L N k : Nat} (q : TpC h X b L N k) (h0 : 0 ≤ thT b L k) : k < N := by
  refine Nat.lt_of_le_of_ne q.2.1 fun e => ?_
  rw [e, q.fin] at h0
  exact absurd h0 (by decide)
theorem TpC.th {h : Hc} {X : Nat} {b : Nat → Int} {L N k : Nat} (q : TpC h X b L N k) : h (X + 3) k = thT b L k := (q.2.2.2.2.1 k q.2.1).1
theorem TpC.st {h : Hc} {X : Nat} {b : Nat → Int} {L N k : Nat} (q : TpC h X b L N k) : h (X + 4) k = ((stT b L k : Nat) : Int) := (q.2.2.2.2.1 k q.2.1).2
theorem TpC.at {h : Hc} {X : Nat} {b : Nat → Int} {L N k : Nat} (q : TpC h X b L N k) : h (X + 1) 4 = (k : Int) := q.2.2.2.2.2.1
set_option maxHeartbeats 400000 in
theorem C_X8_here {d : Nat} {g : Gs} {h : Hc} {P : Po} {X : Nat} {b : Nat → Int} {L N k : Nat} (hG : ClG g X) (hT : TpC h X b L N k) (K : P (.inl (some (vI (thT b L k)))) g h) : Call (d + 0) 0 0 mX8_here [vR (X + 1)] g h P := by
  have hkN := hT.2.1
  have hN4 := hT.1
  refine Call_of rfl ⟨by decide +kernel, rfl⟩ (Nat.le_of_ble_eq_true rfl) rfl ?_
  refine aL0 dX8_here_0 ?_
  refine R_getR dX8_here_1 fX8_15.r hG.tape rfl ?_
  refine aL0 dX8_here_4 ?_
  refine R_getI dX8_here_5 fX8_25.r hG.tape ?_
  refine topV (v := ((k : Nat) : Int)) (hT.at) ?_
  refine ialdN dX8_here_8 hG.t3 rfl (by omega) ?_
  refine topV (v := thT b L k) (hT.th) ?_
  exact R_iret dX8_here_9 rfl (K)
set_option maxHeartbeats 400000 in
theorem C_X8_refuse {d : Nat} {g : Gs} {h : Hc} {P : Po} {X : Nat} {b : Nat → Int} {L N k : Nat} (hG : ClG g X) (hT : TpC h X b L N k) (K : ∀ h', Mv X h h' → Wr h' X b L k → P (.inl (some (vI 0))) g h') : Call (d + 0) 0 0 mX8_refuse [vR (X + 1)] g h P := by
  have hkN := hT.2.1
  have hN4 := hT.1
  refine Call_of rfl ⟨by decide +kernel, rfl⟩ (Nat.le_of_ble_eq_true rfl) rfl ?_
  refine aL0 dX8_refuse_0 ?_
  refine aL0 dX8_refuse_1 ?_
  refine R_getR dX8_refuse_2 fX8_18.r hG.tape rfl ?_
  refine aL0 dX8_refuse_5 ?_
  refine R_getI dX8_refuse_6 fX8_25.r hG.tape ?_
  refine topV (v := ((k : Nat) : Int)) (hT.at) ?_
  refine ialdN dX8_refuse_9 hG.t4 rfl (by omega) ?_
  refine topV (v := ((stT b L k : Nat) : Int)) (hT.st) ?_
  refine R_putI dX8_refuse_10 fX8_28 hG.tape ?_
  refine R_iconst_0 dX8_refuse_13 ?_
  exact R_zret dX8_refuse_14 rfl (by decide) (K _ (Mv.up (Or.inr rfl)) (updH_s _ _ _ _))
theorem tk_0 {x y : Int} (h : ¬ x = y) : (0 : Int) = bI (decide (x = y)) := by rw [decide_eq_false h]; rfl
theorem tk_1 {x y : Int} (h : x = y) : (1 : Int) = bI (decide (x = y)) := by rw [decide_eq_true h]; rfl
set_option maxHeartbeats 400000 in
theorem C_X8_take {d : Nat} {g : Gs} {h : Hc} {P : Po} {X : Nat} {b : Nat → Int} {L N k : Nat} (hG : ClG g X) (hT : TpC h X b L N k) {x : Int} (hx : 0 ≤ x) (K : ∀ h', Mv X h h' → TpC h' X b L N (if thT b L k = x then k + 1 else k) → P (.inl (some (vI (bI (decide (thT b L k = x)))))) g h') : Call (d + 0) 0 0 mX8_take [vR (X + 1), vI x] g h P := by
  have hkN := hT.2.1
  have hN4 := hT.1
  refine Call_of rfl ⟨by decide +kernel, rfl⟩ (Nat.le_of_ble_eq_true rfl) rfl ?_
  refine aL0 dX8_take_0 ?_
  refine R_getR dX8_take_1 fX8_15.r hG.tape rfl ?_
  refine aL0 dX8_take_4 ?_
  refine R_getI dX8_take_5 fX8_25.r hG.tape ?_
  refine topV (v := ((k : Nat) : Int)) (hT.at) ?_
  refine ialdN dX8_take_8 hG.t3 rfl (by omega) ?_
  refine topV (v := thT b L k) (hT.th) ?_
  refine iL1 dX8_take_9 ?_
  refine R_icmp_ne dX8_take_10 (fun hb10 => ?_) (fun hb10 => ?_)
  · refine R_iconst_0 dX8_take_23 ?_
    exact R_zret dX8_take_24 rfl (by decide) (PeqI (K _ Mv.rf (by rw [if_neg (by omega)]; exact hT)) (tk_0 (by omega)))
  · refine aL0 dX8_take_13 ?_
    refine R_getI dX8_take_14 fX8_25.r hG.tape ?_
    refine topV (v := ((k : Nat) : Int)) (hT.at) ?_
    refine R_sipush dX8_take_17 (by decide) ?_
    refine R_icmp_lt dX8_take_20 (fun hb20 => ?_) (fun hb20 => ?_)
    · refine aL0 dX8_take_25 ?_
      refine dupR dX8_take_26 ?_
      refine R_getI dX8_take_27 fX8_25.r hG.tape ?_
      refine topV (v := ((k : Nat) : Int)) (hT.at) ?_
      refine R_iconst_1 dX8_take_30 ?_
      refine addV dX8_take_31 (v := (((k + 1) : Nat) : Int)) (by rw [wid (by omega) (by omega)]; omega) ?_
      refine R_putI dX8_take_32 fX8_25 hG.tape ?_
      refine R_iconst_1 dX8_take_35 ?_
      exact R_zret dX8_take_36 rfl (by decide) (PeqI (K _ (Mv.up (Or.inl rfl)) (by rw [if_pos (by omega)]; exact hT.mv (Mv.up (Or.inl rfl)) (hT.lt (by omega)) (updH_s _ _ _ _) (updH_i (by decide)))) (tk_1 (by omega)))
    · have := hT.lt (by omega)
      omega
set_option maxHeartbeats 400000 in
theorem C_X8_need {d : Nat} {g : Gs} {h : Hc} {P : Po} {X : Nat} {b : Nat → Int} {L N k : Nat} (hG : ClG g X) (hT : TpC h X b L N k) {x : Int} (hx : 0 ≤ x) (K : ∀ h' (v : Int), Mv X h h' → (thT b L k = x ∧ v = 1 ∧ TpC h' X b L N (k + 1)) ∨ (¬ thT b L k = x ∧ v = 0 ∧ Wr h' X b L k) → P (.inl (some (vI v))) g h') : Call (d + 1) 0 0 mX8_need [vR (X + 1), vI x] g h P := by
  have hkN := hT.2.1
  have hN4 := hT.1
  refine Call_of rfl ⟨by decide +kernel, rfl⟩ (Nat.le_of_ble_eq_true rfl) rfl ?_
  refine aL0 dX8_need_0 ?_
  refine iL1 dX8_need_1 ?_
  refine invV1 rfl dX8_need_2 kX8_65 hG.tape (Nat.le_of_ble_eq_true rfl) (Nat.zero_le _) (Nat.zero_le _) (C_X8_take hG hT hx (fun h1 m1 t1 => konI ?_))
  refine R_ifB_ne dX8_need_5 (fun hb5 => ?_) (fun hb5 => ?_)
  · have hk1 := of_decide_eq_true hb5
    rw [if_pos hk1] at t1
    refine R_iconst_1 dX8_need_15 ?_
    refine R_goto dX8_need_16 ?_
    exact R_zret dX8_need_20 rfl (by decide) (K _ _ m1 (Or.inl ⟨hk1, rfl, t1⟩))
  · have hk1 := of_decide_eq_false hb5
    rw [if_neg hk1] at t1
    refine aL0 dX8_need_8 ?_
    refine invV0 rfl dX8_need_9 kX8_68 hG.tape (Nat.le_of_ble_eq_true rfl) (Nat.zero_le _) (Nat.zero_le _) (C_X8_refuse hG t1 (fun h2 m2 w2 => konI ?_))
    refine R_if_eq dX8_need_12 (fun _ => ?_) (fun hb => absurd hb (by decide))
    refine R_iconst_0 dX8_need_19 ?_
    exact R_zret dX8_need_20 rfl (by decide) (K _ _ (m1.tr m2) (Or.inr ⟨hk1, rfl, w2⟩))
/-- reading: the k-th thing must be x; a number from lo to hi; a word and a number behind it, or d -/
def rdW {α : Type} (t : Nat → Int) (k : Nat) (x : Int) (K : Nat → Nat ⊕ α) : Nat ⊕ α := if t k = x then K (k + 1) else .inl k
def rdN {α : Type} (t : Nat → Int) (k : Nat) (lo hi : Int) (K : Int → Nat → Nat ⊕ α) : Nat ⊕ α := if lo ≤ t k ∧ t k ≤ hi then K (t k - lo) (k + 1) else .inl k
def rdM {α : Type} (t : Nat → Int) (k : Nat) (x hi y : Int) (K : Int → Nat → Nat ⊕ α) : Nat ⊕ α := if t k = x then rdN t (k + 1) 0 hi K else K y k
abbrev RdF : Type 1 := (α : Type) → (Int → Nat → Nat ⊕ α) → Nat ⊕ α
/-- what a reading has come to: v, and where the next thing is; or what is refused -/
def OkC (h : Hc) (X : Nat) (b : Nat → Int) (L N : Nat) (v m : Int) (F : RdF) : Prop := (0 ≤ v ∧ v ≤ m ∧ ∃ k, TpC h X b L N k ∧ ∀ (α : Type) (K : Int → Nat → Nat ⊕ α), F α K = K v k) ∨ (v = -1 ∧ ∃ f, Wr h X b L f ∧ ∀ (α : Type) (K : Int → Nat → Nat ⊕ α), F α K = .inl f)
theorem OkC.yes {h : Hc} {X : Nat} {b : Nat → Int} {L N : Nat} {v m : Int} {F : RdF} (q : OkC h X b L N v m F) (hv : 0 ≤ v) : v ≤ m ∧ ∃ k, TpC h X b L N k ∧ ∀ (α : Type) (K : Int → Nat → Nat ⊕ α), F α K = K v k := by
  rcases q with ⟨_, q⟩ | ⟨q, _⟩
  · exact q
  · omega
theorem OkC.no {h : Hc} {X : Nat} {b : Nat → Int} {L N : Nat} {v m : Int} {F : RdF} (q : OkC h X b L N v m F) (hv : v < 0) : v = -1 ∧ ∃ f, Wr h X b L f ∧ ∀ (α : Type) (K : Int → Nat → Nat ⊕ α), F α K = .inl f := by
  rcases q with ⟨q, _⟩ | q
  · omega
  · exact q
theorem OkC.of {h : Hc} {X : Nat} {b : Nat → Int} {L N : Nat} {v m : Int} {F G : RdF} (q : OkC h X b L N v m F) (e : ∀ (α : Type) (K : Int → Nat → Nat ⊕ α), G α K = F α K) : OkC h X b L N v m G := by
  rcases q with ⟨q1, q2, k, q3, q4⟩ | ⟨q1, f, q2, q3⟩
  · exact Or.inl ⟨q1, q2, k, q3, fun α K => (e α K).trans (q4 α K)⟩
  · exact Or.inr ⟨q1, f, q2, fun α K => (e α K).trans (q3 α K)⟩
theorem rdN_y {α : Type} {t : Nat → Int} {k : Nat} {lo hi : Int} {K : Int → Nat → Nat ⊕ α} (h1 : lo ≤ t k) (h2 : t k ≤ hi) : rdN t k lo hi K = K (t k - lo) (k + 1) := if_pos ⟨h1, h2⟩
theorem rdN_n {α : Type} {t : Nat → Int} {k : Nat} {lo hi : Int} {K : Int → Nat → Nat ⊕ α} (h : ¬ (lo ≤ t k ∧ t k ≤ hi)) : rdN t k lo hi K = .inl k := if_neg h
theorem rdW_y {α : Type} {t : Nat → Int} {k : Nat} {x : Int} {K : Nat → Nat ⊕ α} (h : t k = x) : rdW t k x K = K (k + 1) := if_pos h
theorem rdW_n {α : Type} {t : Nat → Int} {k : Nat} {x : Int} {K : Nat → Nat ⊕ α} (h : ¬ t k = x) : rdW t k x K = .inl k := if_neg h
theorem rdM_y {α : Type} {t : Nat → Int} {k : Nat} {x hi y : Int} {K : Int → Nat → Nat ⊕ α} (h : t k = x) : rdM t k x hi y K = rdN t (k + 1) 0 hi K := if_pos h
theorem rdM_n {α : Type} {t : Nat → Int} {k : Nat} {x hi y : Int} {K : Int → Nat → Nat ⊕ α} (h : ¬ t k = x) : rdM t k x hi y K = K y k := if_neg h
set_option maxHeartbeats 400000 in
theorem C_X8_needFrom {d : Nat} {g : Gs} {h : Hc} {P : Po} {X : Nat} {b : Nat → Int} {L N k : Nat} (hG : ClG g X) (hT : TpC h X b L N k) {lo hi : Int} (hlo : 0 ≤ lo) (hl9 : lo ≤ 9999) (K : ∀ h' (v : Int), Mv X h h' → OkC h' X b L N v (hi - lo) (fun _ K => rdN (thT b L) k lo hi K) → P (.inl (some (vI v))) g h') : Call (d + 1) 0 0 mX8_needFrom [vR (X + 1), vI lo, vI hi] g h P := by
  have hkN := hT.2.1
  have hN4 := hT.1
  have hth := thT_rng (k := k) hT.2.2.2.2.2.2.1
  refine Call_of rfl ⟨by decide +kernel, rfl⟩ (Nat.le_of_ble_eq_true rfl) rfl ?_
  refine aL0 dX8_needFrom_0 ?_
  refine R_getR dX8_needFrom_1 fX8_15.r hG.tape rfl ?_
  refine aL0 dX8_needFrom_4 ?_
  refine R_getI dX8_needFrom_5 fX8_25.r hG.tape ?_
  refine topV (v := ((k : Nat) : Int)) (hT.at) ?_
  refine ialdN dX8_needFrom_8 hG.t3 rfl (by omega) ?_
  refine topV (v := thT b L k) (hT.th) ?_
  refine iS3 dX8_needFrom_9 ?_
  refine iL3 dX8_needFrom_10 ?_
  refine iL1 dX8_needFrom_11 ?_
  refine R_icmp_lt dX8_needFrom_12 (fun hb12 => ?_) (fun hb12 => ?_)
  · refine aL0 dX8_needFrom_28 ?_
    refine invV0 rfl dX8_needFrom_29 kX8_68 hG.tape (Nat.le_of_ble_eq_true rfl) (Nat.zero_le _) (Nat.zero_le _) (C_X8_refuse hG hT (fun h2 m2 w2 => konI ?_))
    refine popI dX8_needFrom_32 ?_
    refine R_iconst_m1 dX8_needFrom_33 ?_
    exact R_iret dX8_needFrom_34 rfl (K _ _ m2 (Or.inr ⟨rfl, k, w2, fun _ _ => rdN_n (by omega)⟩))
  · refine iL3 dX8_needFrom_15 ?_
    refine iL2 dX8_needFrom_16 ?_
    refine R_icmp_gt dX8_needFrom_17 (fun hb17 => ?_) (fun hb17 => ?_)
    · refine aL0 dX8_needFrom_28 ?_
      refine invV0 rfl dX8_needFrom_29 kX8_68 hG.tape (Nat.le_of_ble_eq_true rfl) (Nat.zero_le _) (Nat.zero_le _) (C_X8_refuse hG hT (fun h2 m2 w2 => konI ?_))
      refine popI dX8_needFrom_32 ?_
      refine R_iconst_m1 dX8_needFrom_33 ?_
      exact R_iret dX8_needFrom_34 rfl (K _ _ m2 (Or.inr ⟨rfl, k, w2, fun _ _ => rdN_n (by omega)⟩))
    · refine aL0 dX8_needFrom_20 ?_
      refine iL3 dX8_needFrom_21 ?_
      refine invV1 rfl dX8_needFrom_22 kX8_65 hG.tape (Nat.le_of_ble_eq_true rfl) (Nat.zero_le _) (Nat.zero_le _) (C_X8_take hG hT (x := thT b L k) (by omega) (fun h1 m1 t1 => konI ?_))
      rw [if_pos rfl] at t1
      refine R_ifB_ne dX8_needFrom_25 (fun hb25 => ?_) (fun hb25 => ?_)
      · refine iL3 dX8_needFrom_35 ?_
        refine iL1 dX8_needFrom_36 ?_
        refine subV dX8_needFrom_37 (wid (by omega) (by omega)) ?_
        exact R_iret dX8_needFrom_38 rfl (K _ _ m1 (Or.inl ⟨by omega, by omega, k + 1, t1, fun _ _ => rdN_y (by omega) (by omega)⟩))
      · exact absurd (decide_eq_true (p := thT b L k = thT b L k) rfl) (by rw [hb25]; decide)
set_option maxHeartbeats 400000 in
theorem C_X8_needNumber {d : Nat} {g : Gs} {h : Hc} {P : Po} {X : Nat} {b : Nat → Int} {L N k : Nat} (hG : ClG g X) (hT : TpC h X b L N k) {hi : Int} (K : ∀ h' (v : Int), Mv X h h' → OkC h' X b L N v (hi) (fun _ K => rdN (thT b L) k 0 hi K) → P (.inl (some (vI v))) g h') : Call (d + 2) 0 0 mX8_needNumber [vR (X + 1), vI hi] g h P := by
  have hkN := hT.2.1
  have hN4 := hT.1
  refine Call_of rfl ⟨by decide +kernel, rfl⟩ (Nat.le_of_ble_eq_true rfl) rfl ?_
  refine aL0 dX8_needNumber_0 ?_
  refine R_iconst_0 dX8_needNumber_1 ?_
  refine iL1 dX8_needNumber_2 ?_
  refine invV2 rfl dX8_needNumber_3 kX8_72 hG.tape (Nat.le_of_ble_eq_true rfl) (Nat.zero_le _) (Nat.zero_le _) (C_X8_needFrom hG hT (lo := 0) (by decide) (by decide) (fun h1 v1 m1 q1 => konI ?_))
  exact R_iret dX8_needNumber_6 rfl (K _ _ m1 (by rw [show hi - 0 = hi by omega] at q1; exact q1))
set_option maxHeartbeats 400000 in
theorem C_X8_needNamed {d : Nat} {g : Gs} {h : Hc} {P : Po} {X : Nat} {b : Nat → Int} {L N k : Nat} (hG : ClG g X) (hT : TpC h X b L N k) {x hi : Int} (hx : 0 ≤ x) (K : ∀ h' (v : Int), Mv X h h' → OkC h' X b L N v (hi) (fun _ K => rdW (thT b L) k x fun k => rdN (thT b L) k 0 hi K) → P (.inl (some (vI v))) g h') : Call (d + 2) 0 0 mX8_needNamed [vR (X + 1), vI x, vI hi] g h P := by
  have hkN := hT.2.1
  have hN4 := hT.1
  refine Call_of rfl ⟨by decide +kernel, rfl⟩ (Nat.le_of_ble_eq_true rfl) rfl ?_
  refine aL0 dX8_needNamed_0 ?_
  refine iL1 dX8_needNamed_1 ?_
  refine invV1 rfl dX8_needNamed_2 kX8_75 hG.tape (Nat.le_of_ble_eq_true rfl) (Nat.zero_le _) (Nat.zero_le _) (C_X8_need hG hT hx (fun h1 v1 m1 q1 => konI ?_))
  refine R_if_eq dX8_needNamed_5 (fun hb5 => ?_) (fun hb5 => ?_)
  · rcases q1 with ⟨a1, a2, t1⟩ | ⟨a1, a2, w1⟩
    · exfalso; omega
    refine R_iconst_m1 dX8_needNamed_17 ?_
    exact R_iret dX8_needNamed_18 rfl (K _ _ m1 (Or.inr ⟨rfl, k, w1, fun _ _ => rdW_n a1⟩))
  · rcases q1 with ⟨a1, a2, t1⟩ | ⟨a1, a2, w1⟩
    rotate_left
    · exfalso; omega
    refine aL0 dX8_needNamed_8 ?_
    refine R_iconst_0 dX8_needNamed_9 ?_
    refine iL2 dX8_needNamed_10 ?_
    refine invV2 rfl dX8_needNamed_11 kX8_72 hG.tape (Nat.le_of_ble_eq_true rfl) (Nat.zero_le _) (Nat.zero_le _) (C_X8_needFrom hG t1 (lo := 0) (by decide) (by decide) (fun h2 v2 m2 q2 => konI ?_))
    rw [show hi - 0 = hi by omega] at q2
    refine R_goto dX8_needNamed_14 ?_
    exact R_iret dX8_needNamed_18 rfl (K _ _ (m1.tr m2) (q2.of fun _ _ => rdW_y a1))
set_option maxHeartbeats 400000 in
theorem C_X8_maybeNamed {d : Nat} {g : Gs} {h : Hc} {P : Po} {X : Nat} {b : Nat → Int} {L N k : Nat} (hG : ClG g X) (hT : TpC h X b L N k) {x hi y : Int} (hx : 0 ≤ x) (hy : 0 ≤ y ∧ y ≤ hi) (K : ∀ h' (v : Int), Mv X h h' → OkC h' X b L N v (hi) (fun _ K => rdM (thT b L) k x hi y K) → P (.inl (some (vI v))) g h') : Call (d + 2) 0 0 mX8_maybeNamed [vR (X + 1), vI x, vI hi, vI y] g h P := by
  have hkN := hT.2.1
  have hN4 := hT.1
  refine Call_of rfl ⟨by decide +kernel, rfl⟩ (Nat.le_of_ble_eq_true rfl) rfl ?_
  refine aL0 dX8_maybeNamed_0 ?_
  refine iL1 dX8_maybeNamed_1 ?_
  refine invV1 rfl dX8_maybeNamed_2 kX8_65 hG.tape (Nat.le_of_ble_eq_true rfl) (Nat.zero_le _) (Nat.zero_le _) (C_X8_take hG hT hx (fun h1 m1 t1 => konI ?_))
  refine R_ifB_eq dX8_maybeNamed_5 (fun hb5 => ?_) (fun hb5 => ?_)
  · have a1 := of_decide_eq_false hb5
    rw [if_neg a1] at t1
    refine iL3 dX8_maybeNamed_17 ?_
    exact R_iret dX8_maybeNamed_18 rfl (K _ _ m1 (Or.inl ⟨by omega, by omega, k, t1, fun _ _ => rdM_n a1⟩))
  · have a1 := of_decide_eq_true hb5
    rw [if_pos a1] at t1
    refine aL0 dX8_maybeNamed_8 ?_
    refine R_iconst_0 dX8_maybeNamed_9 ?_
    refine iL2 dX8_maybeNamed_10 ?_
    refine invV2 rfl dX8_maybeNamed_11 kX8_72 hG.tape (Nat.le_of_ble_eq_true rfl) (Nat.zero_le _) (Nat.zero_le _) (C_X8_needFrom hG t1 (lo := 0) (by decide) (by decide) (fun h2 v2 m2 q2 => konI ?_))
    rw [show hi - 0 = hi by omega] at q2
    refine R_goto dX8_maybeNamed_14 ?_
    exact R_iret dX8_maybeNamed_18 rfl (K _ _ (m1.tr m2) (q2.of fun _ _ => rdM_y a1))
