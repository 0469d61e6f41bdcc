/-! THE PAST: A k the row ahead of the k-th act, the oldest first; n acts -/
def paT (p i : Nat) : Nat := p + 2 + 16 * i
def PaG (g : Gs) (p : Nat) : Prop := g.1[p]? = some (6, 3, [((p + 1 : Nat) : Int), -1, -1]) ∧ g.1[p + 1]? = some (16, 12, (List.range 12).map (fun i => ((paT p i : Nat) : Int))) ∧ ∀ i, i < 12 → TwG g (paT p i)
def Pa (h : Hc) (p : Nat) (A : Nat → Nat → Int) (n : Nat) : Prop := (h p 2 = (n : Int) ∧ n ≤ 12) ∧ (0 ≤ h p 1 ∧ h p 1 < 12) ∧ ∀ k, k < n → Tw h (paT p (((h p 1).toNat + k) % 12)) (A k) ∧ WF (A k)
def pas (p : Nat) : Nat → Prop := fun q => p ≤ q ∧ q < p + 194
def remA (A : Nat → Nat → Int) (n : Nat) (w : Nat → Int) : Nat → Nat → Int := if n < 12 then (fun k => if k = n then w else A k) else (fun k => if k = 11 then w else A (k + 1))
def rmbN (n : Nat) : Nat := if n < 12 then n + 1 else 12
theorem paT_get {p i : Nat} (hi : i < 12) : ((List.range 12).map (fun i => ((paT p i : Nat) : Int))).getD i (-1) = ((paT p i : Nat) : Int) := by
  rw [List.getD_eq_getElem?_getD, List.getElem?_map, List.getElem?_range hi]
  rfl
theorem Pa.off {S : Nat → Prop} {h h' : Hc} {p : Nat} {A : Nat → Nat → Int} {n : Nat} (q : Pa h p A n) (o : Off S h h') (hs : ∀ a, S a → ¬ pas p a) : Pa h' p A n := by
  have e : h' p = h p := o p (fun hS => hs p hS ⟨Nat.le_refl _, by omega⟩)
  unfold Pa
  rw [e]
  refine ⟨q.1, q.2.1, fun k hk => ⟨(q.2.2 k hk).1.off o (fun i hi hS => hs _ hS ?_), (q.2.2 k hk).2⟩⟩
  have := Nat.mod_lt ((h p 1).toNat + k) (show 12 > 0 by omega)
  unfold pas paT
  omega
/-- a copy of a town leaves the others as they are -/
theorem Pa_sep {p i j a b : Nat} (hi : i < 12) (hj : j < 12) (hij : i ≠ j) (ha : a < 16) (hb : b < 16) : ¬ paT p i + a = paT p j + b := by unfold paT; omega
set_option maxHeartbeats 400000 in
theorem C_X6_forget {d : Nat} {g : Gs} {h : Hc} {P : Po} {p n : Nat} {A : Nat → Nat → Int} (hG : PaG g p) (hP : Pa h p A n) (K : ∀ h', Off (fun q => q = p) h h' → Pa h' p A 0 → P (.inl none) g h') : Call (d + 0) 0 0 mX6_forget [vR p] g h P := by
  refine Call_of rfl ⟨by decide +kernel, rfl⟩ (Nat.le_of_ble_eq_true rfl) rfl ?_
  refine aL0 dX6_forget_0 ?_
  refine R_iconst_0 dX6_forget_1 ?_
  refine R_putI dX6_forget_2 fX6_19 hG.1 ?_
  exact R_vret dX6_forget_5 rfl (K _ ((Off.rf _ _).upd rfl) ⟨⟨by rw [updH_s]; rfl, by omega⟩, by rw [updH_i (by omega)]; exact hP.2.1, fun k hk => absurd hk (Nat.not_lt_zero _)⟩)
theorem Tw.eqc {h h' : Hc} {t : Nat} {w : Nat → Int} (q : Tw h t w) (e : ∀ a, a < 16 → h' (t + a) = h (t + a)) : Tw h' t w := by
  unfold Tw
  rw [show h' t = h t from e 0 (by omega), e 1 (by omega), e 2 (by omega), e 3 (by omega), e 4 (by omega), e 5 (by omega), e 6 (by omega), e 7 (by omega), e 8 (by omega), e 9 (by omega), e 10 (by omega), e 11 (by omega), e 12 (by omega), e 13 (by omega), e 14 (by omega), e 15 (by omega)]
  exact q
theorem Pa.rem {h h' : Hc} {p : Nat} {A : Nat → Nat → Int} {n : Nat} {w : Nat → Int} (q : Pa h p A n) (hf : WF w) (hT : Tw h' (paT p (((h p 1).toNat + n) % 12)) w) (o : ∀ i, i < 12 → i ≠ ((h p 1).toNat + n) % 12 → ∀ a, a < 16 → h' (paT p i + a) = h (paT p i + a)) (hs : h' p 2 = ((rmbN n : Nat) : Int)) (h1 : h' p 1 = if n < 12 then h p 1 else (h p 1 + 1) % 12) : Pa h' p (remA A n w) (rmbN n) := by
  obtain ⟨⟨q1, q2⟩, q3, q4⟩ := q
  by_cases hn : n < 12
  · rw [if_pos hn] at h1
    have e1 : rmbN n = n + 1 := if_pos hn
    have e2 : remA A n w = fun k => if k = n then w else A k := if_pos hn
    refine ⟨⟨hs, by omega⟩, by rw [h1]; exact q3, fun k hk => ?_⟩
    rw [h1, e2]
    dsimp only
    by_cases e : k = n
    · subst e; rw [if_pos rfl]; exact ⟨hT, hf⟩
    · rw [if_neg e]
      have := q4 k (by omega)
      exact ⟨this.1.eqc (o _ (by omega) (by omega)), this.2⟩
  · rw [if_neg hn] at h1
    have e1 : rmbN n = 12 := if_neg hn
    have e2 : remA A n w = fun k => if k = 11 then w else A (k + 1) := if_neg hn
    refine ⟨⟨hs, by omega⟩, by rw [h1]; omega, fun k hk => ?_⟩
    rw [h1, e2]
    dsimp only
    by_cases e : k = 11
    · rw [if_pos e, show (((h p 1 + 1) % 12).toNat + k) % 12 = ((h p 1).toNat + n) % 12 by omega]; exact ⟨hT, hf⟩
    · rw [if_neg e, show (((h p 1 + 1) % 12).toNat + k) % 12 = ((h p 1).toNat + (k + 1)) % 12 by omega]
      have := q4 (k + 1) (by omega)
      exact ⟨this.1.eqc (o _ (by omega) (by omega)), this.2⟩
set_option maxHeartbeats 400000 in
theorem C_X6_remember {d : Nat} {g : Gs} {h : Hc} {P : Po} {p n t : Nat} {A : Nat → Nat → Int} {w : Nat → Int} (hG : PaG g p) (hP : Pa h p A n) (hT : TwG g t) (hts : ∀ i, i < 16 → ¬ pas p (t + i)) (hw : Tw h t w) (hf : WF w) (K : ∀ h', Off (pas p) h h' → Pa h' p (remA A n w) (rmbN n) → P (.inl none) g h') : Call (d + 2) 0 0 mX6_remember [vR p, vR t] g h P := by
  have hfi := hP.2.1
  have hnn := hP.1.2
  refine Call_of rfl ⟨by decide +kernel, rfl⟩ (Nat.le_of_ble_eq_true rfl) rfl ?_
  refine aL0 dX6_remember_0 ?_
  refine R_getR dX6_remember_1 fX6_11.r hG.1 rfl ?_
  refine aL0 dX6_remember_4 ?_
  refine R_getI dX6_remember_5 fX6_15.r hG.1 ?_
  refine topV (v := h p 1) (rfl) ?_
  refine aL0 dX6_remember_8 ?_
  refine R_getI dX6_remember_9 fX6_19.r hG.1 ?_
  refine topV (v := ((n : Nat) : Int)) (hP.1.1) ?_
  refine addV dX6_remember_12 (wid (by omega) (by omega)) ?_
  refine R_bipush dX6_remember_13 (by decide) ?_
  refine remV dX6_remember_15 (by decide) (remI (by omega) (by omega) (by omega)) ?_
  refine topV (v := (((((h p 1).toNat + n) % 12) : Nat) : Int)) (by omega) ?_
  refine R_aald (b := paT p (((h p 1).toNat + n) % 12)) dX6_remember_16 hG.2.1 (by omega) (by omega) (by rw [Int.toNat_natCast]; exact paT_get (by omega)) ?_
  refine aL1 dX6_remember_17 ?_
  refine invV1 rfl dX6_remember_18 kX6_23 (hG.2.2 (((h p 1).toNat + n) % 12) (by omega)).o (Nat.le_of_ble_eq_true rfl) (Nat.zero_le _) (Nat.zero_le _) (C_X10_copyFrom (hG.2.2 (((h p 1).toNat + n) % 12) (by omega)) hT (fun i j hi hj q9 => hts i hi (by rw [q9]; unfold pas paT; omega)) (fun h1 hx1 hc1 => konV ?_))
  have hpp : h1 p = h p := hx1 p (by unfold paT; omega)
  have hsz1 : h1 p 2 = ((n : Nat) : Int) := by rw [hpp]; exact hP.1.1
  have hfi1 : h1 p 1 = h p 1 := by rw [hpp]
  refine aL0 dX6_remember_21 ?_
  refine R_getI dX6_remember_22 fX6_19.r hG.1 ?_
  refine topV (v := ((n : Nat) : Int)) (hsz1) ?_
  refine R_bipush dX6_remember_25 (by decide) ?_
  refine R_icmp_ge dX6_remember_27 (fun hb27 => ?_) (fun hb27 => ?_)
  · refine aL0 dX6_remember_43 ?_
    refine aL0 dX6_remember_44 ?_
    refine R_getI dX6_remember_45 fX6_15.r hG.1 ?_
    refine topV (v := h p 1) (hfi1) ?_
    refine R_iconst_1 dX6_remember_48 ?_
    refine addV dX6_remember_49 (wid (by omega) (by omega)) ?_
    refine R_bipush dX6_remember_50 (by decide) ?_
    refine remV dX6_remember_52 (by decide) (remI (by omega) (by omega) (by omega)) ?_
    refine R_putI dX6_remember_53 fX6_15 hG.1 ?_
    refine storH (fun h2 e2 => ?_)
    exact R_vret dX6_remember_56 rfl (K _ (fun a ha => by rw [e2, updH_a (fun q9 => ha (by rw [q9]; unfold pas; omega))]; exact hx1 a (fun q9 => ha (by unfold pas; unfold paT at q9; omega))) (hP.rem hf ((hw.cp hf hc1).eqc (fun a ha => by rw [e2, updH_a (by unfold paT; omega)])) (fun i hi hne a ha => by rw [e2, updH_a (by unfold paT; omega)]; exact hx1 _ (by unfold paT; omega)) (by rw [e2]; unfold rmbN; first | (rw [updH_s, if_pos (by omega)]; done) | (rw [updH_s, if_pos (by omega)]; omega) | (rw [updH_i (by omega), if_neg (by omega), hsz1]; omega)) (by rw [e2]; first | (rw [updH_s, if_neg (by omega)]; done) | (rw [updH_i (by omega), if_pos (by omega)]; exact hfi1))))
  · refine aL0 dX6_remember_30 ?_
    refine dupR dX6_remember_31 ?_
    refine R_getI dX6_remember_32 fX6_19.r hG.1 ?_
    refine topV (v := ((n : Nat) : Int)) (hsz1) ?_
    refine R_iconst_1 dX6_remember_35 ?_
    refine addV dX6_remember_36 (v := (((n + 1) : Nat) : Int)) (by rw [wid (by omega) (by omega)]; omega) ?_
    refine R_putI dX6_remember_37 fX6_19 hG.1 ?_
    refine storH (fun h3 e3 => ?_)
    refine R_goto dX6_remember_40 ?_
    exact R_vret dX6_remember_56 rfl (K _ (fun a ha => by rw [e3, updH_a (fun q9 => ha (by rw [q9]; unfold pas; omega))]; exact hx1 a (fun q9 => ha (by unfold pas; unfold paT at q9; omega))) (hP.rem hf ((hw.cp hf hc1).eqc (fun a ha => by rw [e3, updH_a (by unfold paT; omega)])) (fun i hi hne a ha => by rw [e3, updH_a (by unfold paT; omega)]; exact hx1 _ (by unfold paT; omega)) (by rw [e3]; unfold rmbN; first | (rw [updH_s, if_pos (by omega)]; done) | (rw [updH_s, if_pos (by omega)]; omega) | (rw [updH_i (by omega), if_neg (by omega), hsz1]; omega)) (by rw [e3]; first | (rw [updH_s, if_neg (by omega)]; done) | (rw [updH_i (by omega), if_pos (by omega)]; exact hfi1))))
set_option maxHeartbeats 400000 in
theorem C_X6_goBack {d : Nat} {g : Gs} {h : Hc} {P : Po} {p n t : Nat} {A : Nat → Nat → Int} {w : Nat → Int} (hG : PaG g p) (hP : Pa h p A n) (hT : TwG g t) (hts : ∀ i, i < 16 → ¬ pas p (t + i)) (K0 : n = 0 → P (.inl (some (vI 0))) g h) (K1 : 0 < n → ∀ h', Off (fun q => q = p ∨ (t ≤ q ∧ q < t + 16)) h h' → Pa h' p A (n - 1) → Tw h' t (A (n - 1)) → WF (A (n - 1)) → P (.inl (some (vI 1))) g h') : Call (d + 2) 0 0 mX6_goBack [vR p, vR t] g h P := by
  have hfi := hP.2.1
  have hnn := hP.1.2
  refine Call_of rfl ⟨by decide +kernel, rfl⟩ (Nat.le_of_ble_eq_true rfl) rfl ?_
  refine aL0 dX6_goBack_0 ?_
  refine R_getI dX6_goBack_1 fX6_19.r hG.1 ?_
  refine topV (v := ((n : Nat) : Int)) (hP.1.1) ?_
  refine R_if_gt dX6_goBack_4 (fun hb4 => ?_) (fun hb4 => ?_)
  · refine aL0 dX6_goBack_9 ?_
    refine dupR dX6_goBack_10 ?_
    refine R_getI dX6_goBack_11 fX6_19.r hG.1 ?_
    refine topV (v := ((n : Nat) : Int)) (hP.1.1) ?_
    refine R_iconst_1 dX6_goBack_14 ?_
    refine subV dX6_goBack_15 (wid (by omega) (by omega)) ?_
    refine R_putI dX6_goBack_16 fX6_19 hG.1 ?_
    refine storH (fun h1 e1 => ?_)
    refine aL1 dX6_goBack_19 ?_
    refine aL0 dX6_goBack_20 ?_
    refine R_getR dX6_goBack_21 fX6_11.r hG.1 rfl ?_
    refine aL0 dX6_goBack_24 ?_
    refine R_getI dX6_goBack_25 fX6_15.r hG.1 ?_
    refine topV (v := h p 1) (by rw [e1, updH_i (by omega)]) ?_
    refine aL0 dX6_goBack_28 ?_
    refine R_getI dX6_goBack_29 fX6_19.r hG.1 ?_
    refine topV (v := ((n : Nat) : Int) - 1) (by rw [e1, updH_s]) ?_
    refine addV dX6_goBack_32 (wid (by omega) (by omega)) ?_
    refine R_bipush dX6_goBack_33 (by decide) ?_
    refine remV dX6_goBack_35 (by decide) (remI (by omega) (by omega) (by omega)) ?_
    refine topV (v := (((((h p 1).toNat + (n - 1)) % 12) : Nat) : Int)) (by omega) ?_
    refine R_aald (b := paT p (((h p 1).toNat + (n - 1)) % 12)) dX6_goBack_36 hG.2.1 (by omega) (by omega) (by rw [Int.toNat_natCast]; exact paT_get (by omega)) ?_
    refine invV1 rfl dX6_goBack_37 kX6_23 hT.o (Nat.le_of_ble_eq_true rfl) (Nat.zero_le _) (Nat.zero_le _) (C_X10_copyFrom hT (hG.2.2 (((h p 1).toNat + (n - 1)) % 12) (by omega)) (fun i j hi hj q9 => hts j hj (by rw [← q9]; unfold pas paT; omega)) (fun h2 hx2 hc2 => konV ?_))
    have hq9 := hP.2.2 (n - 1) (by omega)
    have hw1 : Tw h1 (paT p (((h p 1).toNat + (n - 1)) % 12)) (A (n - 1)) := hq9.1.eqc (fun a ha => by rw [e1, updH_a (by unfold paT; omega)])
    have hP1 : Pa h1 p A (n - 1) := ⟨⟨by rw [e1, updH_s]; omega, by omega⟩, by rw [e1, updH_i (by omega)]; exact hfi, fun k hk => by rw [e1, updH_i (by omega)]; exact ⟨(hP.2.2 k (by omega)).1.eqc (fun a ha => by rw [updH_a (by unfold paT; omega)]), (hP.2.2 k (by omega)).2⟩⟩
    refine R_iconst_1 dX6_goBack_40 ?_
    exact R_zret dX6_goBack_41 rfl (by decide) (K1 (by omega) _ (fun a ha => by rw [hx2 a (fun q9 => ha (Or.inr q9)), e1, updH_a (fun q9 => ha (Or.inl q9))]) (hP1.off hx2 (fun a ha hp9 => hts (a - t) (by omega) (by rw [show t + (a - t) = a by omega]; exact hp9))) (hw1.cp hq9.2 hc2) hq9.2)
  · have hn0 : n = 0 := by omega
    refine R_iconst_0 dX6_goBack_7 ?_
    exact R_zret dX6_goBack_8 rfl (by decide) (K0 hn0)
