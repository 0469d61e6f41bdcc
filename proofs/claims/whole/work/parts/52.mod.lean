/-! THE MODEL: its cells from M on -/
def mdL (M : Nat) : List Sh := [(11, 31, [-1, ((M + 1 : Nat) : Int), ((M + 2 : Nat) : Int), ((M + 3 : Nat) : Int), ((M + 4 : Nat) : Int), ((M + 5 : Nat) : Int), -1, -1, ((M + 6 : Nat) : Int), -1, -1, -1, -1, -1, -1, ((M + 7 : Nat) : Int), -1, ((M + 8 : Nat) : Int), -1, -1, -1, ((M + 9 : Nat) : Int), ((M + 10 : Nat) : Int), ((M + 11 : Nat) : Int), ((M + 12 : Nat) : Int), ((M + 13 : Nat) : Int), ((M + 14 : Nat) : Int), ((M + 15 : Nat) : Int), ((M + 16 : Nat) : Int), ((M + 17 : Nat) : Int), ((M + 18 : Nat) : Int)]), (13, 2214, []), (13, 1365, []), (13, 1365, []), (13, 516, []), (13, 6192, []), (12, 400, []), (13, 5, []), (13, 400, []), (13, 5, []), (13, 5, []), (13, 60, []), (15, 60, []), (15, 480, []), (13, 60, []), (13, 60, []), (13, 5, []), (13, 5, []), (13, 32, [])]
def MdG (g : Gs) (M : Nat) : Prop := g.2.1 = 1 ∧ ∀ i, i < 19 → g.1[M + i]? = (mdL M)[i]?
theorem MdG.one {g : Gs} {M : Nat} (q : MdG g M) : g.2.1 = 1 := q.1
theorem MdG.o {g : Gs} {M : Nat} (q : MdG g M) : g.1[M]? = some (11, 31, [-1, ((M + 1 : Nat) : Int), ((M + 2 : Nat) : Int), ((M + 3 : Nat) : Int), ((M + 4 : Nat) : Int), ((M + 5 : Nat) : Int), -1, -1, ((M + 6 : Nat) : Int), -1, -1, -1, -1, -1, -1, ((M + 7 : Nat) : Int), -1, ((M + 8 : Nat) : Int), -1, -1, -1, ((M + 9 : Nat) : Int), ((M + 10 : Nat) : Int), ((M + 11 : Nat) : Int), ((M + 12 : Nat) : Int), ((M + 13 : Nat) : Int), ((M + 14 : Nat) : Int), ((M + 15 : Nat) : Int), ((M + 16 : Nat) : Int), ((M + 17 : Nat) : Int), ((M + 18 : Nat) : Int)]) := q.2 0 (by decide)
theorem MdG.a1 {g : Gs} {M : Nat} (q : MdG g M) : g.1[M + 1]? = some (13, 2214, []) := q.2 1 (by decide)
theorem MdG.a2 {g : Gs} {M : Nat} (q : MdG g M) : g.1[M + 2]? = some (13, 1365, []) := q.2 2 (by decide)
theorem MdG.a3 {g : Gs} {M : Nat} (q : MdG g M) : g.1[M + 3]? = some (13, 1365, []) := q.2 3 (by decide)
theorem MdG.a4 {g : Gs} {M : Nat} (q : MdG g M) : g.1[M + 4]? = some (13, 516, []) := q.2 4 (by decide)
theorem MdG.a5 {g : Gs} {M : Nat} (q : MdG g M) : g.1[M + 5]? = some (13, 6192, []) := q.2 5 (by decide)
theorem MdG.a6 {g : Gs} {M : Nat} (q : MdG g M) : g.1[M + 6]? = some (12, 400, []) := q.2 6 (by decide)
theorem MdG.a7 {g : Gs} {M : Nat} (q : MdG g M) : g.1[M + 7]? = some (13, 5, []) := q.2 7 (by decide)
theorem MdG.a8 {g : Gs} {M : Nat} (q : MdG g M) : g.1[M + 8]? = some (13, 400, []) := q.2 8 (by decide)
theorem MdG.a9 {g : Gs} {M : Nat} (q : MdG g M) : g.1[M + 9]? = some (13, 5, []) := q.2 9 (by decide)
theorem MdG.a10 {g : Gs} {M : Nat} (q : MdG g M) : g.1[M + 10]? = some (13, 5, []) := q.2 10 (by decide)
theorem MdG.a11 {g : Gs} {M : Nat} (q : MdG g M) : g.1[M + 11]? = some (13, 60, []) := q.2 11 (by decide)
theorem MdG.a12 {g : Gs} {M : Nat} (q : MdG g M) : g.1[M + 12]? = some (15, 60, []) := q.2 12 (by decide)
theorem MdG.a13 {g : Gs} {M : Nat} (q : MdG g M) : g.1[M + 13]? = some (15, 480, []) := q.2 13 (by decide)
theorem MdG.a14 {g : Gs} {M : Nat} (q : MdG g M) : g.1[M + 14]? = some (13, 60, []) := q.2 14 (by decide)
theorem MdG.a15 {g : Gs} {M : Nat} (q : MdG g M) : g.1[M + 15]? = some (13, 60, []) := q.2 15 (by decide)
theorem MdG.a16 {g : Gs} {M : Nat} (q : MdG g M) : g.1[M + 16]? = some (13, 5, []) := q.2 16 (by decide)
theorem MdG.a17 {g : Gs} {M : Nat} (q : MdG g M) : g.1[M + 17]? = some (13, 5, []) := q.2 17 (by decide)
theorem MdG.a18 {g : Gs} {M : Nat} (q : MdG g M) : g.1[M + 18]? = some (13, 32, []) := q.2 18 (by decide)
/-- what may change: how it is asked, and rows of scratch; what asking alone changes -/
def mqs (M : Nat) : Nat → Prop := fun q => q = M ∨ q = M + 8 ∨ (M + 10 ≤ q ∧ q ≤ M + 18)
def mns (M : Nat) : Nat → Prop := fun q => q = M ∨ q = M + 8
def Mq (M : Nat) (h h' : Hc) : Prop := Off (mns M) h h' ∧ ∀ k, k < 18 → h' M k = h M k
theorem Mq.rf (M : Nat) (h : Hc) : Mq M h h := ⟨Off.rf _ _, fun _ _ => rfl⟩
theorem Mq.tr {M : Nat} {h1 h2 h3 : Hc} (a : Mq M h1 h2) (b : Mq M h2 h3) : Mq M h1 h3 := ⟨a.1.tr b.1, fun k hk => (b.2 k hk).trans (a.2 k hk)⟩
theorem Mq.w {M : Nat} {h h' : Hc} {w : Nat → Int} (a : Mq M h h') (hW : h (M + 1) = w) : h' (M + 1) = w := by rw [a.1 (M + 1) (by unfold mns; omega)]; exact hW
theorem Mq.put {M : Nat} {h h' : Hc} (a : Mq M h h') {k : Nat} {v : Int} (hk : 18 ≤ k) : Mq M h (updH h' M k v) := ⟨a.1.upd (Or.inl rfl), fun i hi => by rw [updH_i (by omega)]; exact a.2 i hi⟩
theorem Mq.off {M b : Nat} {h h1 h2 : Hc} (a : Mq M h h1) (o : Off (fun q => q = b) h1 h2) (hb : b = M + 8) : Mq M h h2 := ⟨a.1.tr (o.mono (fun q hq => by rw [hq]; exact Or.inr hb)), fun i hi => by rw [o M (by omega)]; exact a.2 i hi⟩
def Mz (M : Nat) (h h' : Hc) : Prop := Off (mqs M) h h' ∧ ∀ k, k < 18 → h' M k = h M k
theorem Mz.rf (M : Nat) (h : Hc) : Mz M h h := ⟨Off.rf _ _, fun _ _ => rfl⟩
theorem Mz.tr {M : Nat} {h1 h2 h3 : Hc} (a : Mz M h1 h2) (b : Mz M h2 h3) : Mz M h1 h3 := ⟨a.1.tr b.1, fun k hk => (b.2 k hk).trans (a.2 k hk)⟩
theorem Mz.w {M : Nat} {h h' : Hc} {w : Nat → Int} (a : Mz M h h') (hW : h (M + 1) = w) : h' (M + 1) = w := by rw [a.1 (M + 1) (by unfold mqs; omega)]; exact hW
theorem Mz.arr {M : Nat} {h h' : Hc} (a : Mz M h h') {b k : Nat} {v : Int} (hb : b = M + 8 ∨ (M + 10 ≤ b ∧ b ≤ M + 18)) : Mz M h (updH h' b k v) := ⟨a.1.upd (Or.inr hb), fun i hi => by rw [updH_a (by omega)]; exact a.2 i hi⟩
theorem Mq.z {M : Nat} {h h' : Hc} (a : Mq M h h') : Mz M h h' := ⟨a.1.mono (fun q hq => by unfold mns at hq; unfold mqs; omega), a.2⟩
theorem Mq.keep {M b : Nat} {h h' : Hc} (a : Mq M h h') (hb : b ≠ M ∧ b ≠ M + 8) : h' b = h b := a.1 b (by unfold mns; omega)
/-- a call's end: what was thrown -/
def Mp (M : Nat) (h h' : Hc) (t : Int) : Prop := Off (mqs M) h h' ∧ (∀ k, 0 < k → k < 18 → h' M k = h M k) ∧ h' M 0 = t
theorem Mp.i (h : Hc) (M : Nat) : Mp M h (updH h M 0 0) 0 := ⟨(Off.rf _ _).upd (Or.inl rfl), fun k hk _ => updH_i (by omega), updH_s _ _ _ _⟩
theorem Mp.w {M : Nat} {h h' : Hc} {t : Int} {w : Nat → Int} (a : Mp M h h' t) (hW : h (M + 1) = w) : h' (M + 1) = w := by rw [a.1 (M + 1) (by unfold mqs; omega)]; exact hW
theorem Mp.q {M : Nat} {h h1 h2 : Hc} {t : Int} (a : Mp M h h1 t) (b : Mz M h1 h2) : Mp M h h2 t := ⟨a.1.tr b.1, fun k h0 hk => (b.2 k hk).trans (a.2.1 k h0 hk), (b.2 0 (by omega)).trans a.2.2⟩
def ThI (M : Nat) (b : Bool) (x : Int) (h h' : Hc) : Prop := h' = if b then updH h M 0 x else h
theorem ThI.t {M : Nat} {b : Bool} {x t : Int} {h h1 h2 : Hc} (a : ThI M b x h1 h2) (p : Mp M h h1 t) (hb : b = true) : Mp M h h2 x := by
  unfold ThI at a
  rw [if_pos hb] at a
  rw [a]
  exact ⟨p.1.upd (Or.inl rfl), fun k h0 hk => by rw [updH_i (by omega)]; exact p.2.1 k h0 hk, updH_s _ _ _ _⟩
theorem ThI.q {M : Nat} {b : Bool} {x : Int} {h h1 h2 : Hc} (a : ThI M b x h1 h2) (p : Mz M h h1) (hb : b = false) : Mz M h h2 := by
  unfold ThI at a
  rw [hb] at a
  rw [a]
  exact p
theorem ThI.w {M : Nat} {b : Bool} {x : Int} {h1 h2 : Hc} {w : Nat → Int} (a : ThI M b x h1 h2) (p : h1 (M + 1) = w) (hb : b = false) : h2 (M + 1) = w := by
  unfold ThI at a
  rw [hb] at a
  rw [a]
  exact p
/-- small rows -/
def obI (b : Bool) (c : Nat) : Int := if b then shlI 1 (c : Int) else 0
theorem obI_t {b : Bool} {c : Nat} (h : b = true) : shlI 1 (c : Int) = obI b c := by subst h; rfl
theorem obI_f {b : Bool} {c : Nat} (h : b = false) : 0 = obI b c := by subst h; rfl
theorem bset_ob {p : Nat → Bool} {n : Nat} : orI (bset p n) (obI (p n) n) = bset p (n + 1) := by
  cases h : p n
  · rw [bset_f h]; exact orI_0 (in32_bset p n)
  · rw [bset_t h]; rfl
def lastB (p : Nat → Bool) : Nat → Int := foldN (fun k a => if p k then (k : Int) else a) (-1)
theorem lastB_t {p : Nat → Bool} {n : Nat} (h : p n = true) : lastB p (n + 1) = (n : Int) := by simp [lastB, foldN_s, h]
theorem lastB_f {p : Nat → Bool} {n : Nat} (h : p n = false) : lastB p (n + 1) = lastB p n := by simp [lastB, foldN_s, h]
theorem lastB_no {p : Nat → Bool} : ∀ {n : Nat}, (∀ k, k < n → p k = false) → lastB p n = -1
  | 0, _ => rfl
  | n + 1, h => by rw [lastB_f (h n (Nat.lt_succ_self n)), lastB_no (fun k hk => h k (by omega))]
theorem lastB_first {p : Nat → Bool} {n : Nat} (h1 : ∀ a b, a < n → b < n → p a = true → p b = true → a = b) : lastB p n = firstB p n := by
  rcases firstB_rng p n with e | ⟨k, hk, e, hp, hno⟩
  · rw [e]
    refine lastB_no fun k hk => ?_
    cases hp : p k
    · rfl
    · exfalso
      have : ∃ m, m < n ∧ p m = true ∧ ∀ j, j < m → p j = false := by
        clear e h1
        induction k using Nat.strongRecOn with
        | ind k ih =>
          by_cases q : ∃ j, j < k ∧ p j = true
          · obtain ⟨j, hj, hpj⟩ := q
            exact ih j hj (by omega) hpj
          · refine ⟨k, hk, hp, fun j hj => ?_⟩
            cases hpj : p j
            · rfl
            · exact absurd ⟨j, hj, hpj⟩ q
      obtain ⟨m, hm, hpm, hno⟩ := this
      rw [firstB_at hpm hno hm] at e
      omega
  · rw [e]
    have key : ∀ m, k < m → m ≤ n → lastB p m = (k : Int) := by
      intro m
      induction m with
      | zero => intro h _; omega
      | succ m ih =>
        intro hkm hmn
        by_cases e9 : k = m
        · subst e9; exact lastB_t hp
        · cases hpm : p m
          · rw [lastB_f hpm]; exact ih (by omega) (by omega)
          · exact absurd (h1 k m hk (by omega) hp hpm) e9
    exact key n hk (Nat.le_refl _)
theorem placeOf_last {w : Nat → Int} (hf : WF w) {x : Int} (hx : 0 ≤ x) : lastB (placeP w x) 60 = placeOf w x :=
  lastB_first (fun a b ha hb h1 h2 => by
    have h3 := of_decide_eq_true h1
    have h4 := of_decide_eq_true h2
    exact hf.one a b ha hb (by rw [h3, h4]) (by omega))
set_option maxHeartbeats 400000 in
theorem C_X12_throwsIf {d : Nat} {g : Gs} {h : Hc} {P : Po} {M : Nat} (hG : MdG g M) {b : Bool} {x : Int} (K : ∀ h', ThI M b x h h' → P (.inl (some (vI (bI b)))) g h') : Call (d + 0) 0 0 mX12_throwsIf [vR M, vI (bI (b)), vI x] g h P := by
  refine Call_of rfl ⟨by decide +kernel, rfl⟩ (Nat.le_of_ble_eq_true rfl) rfl ?_
  refine iL1 dX12_throwsIf_0 ?_
  refine R_ifB_eq dX12_throwsIf_1 (fun hb1 => ?_) (fun hb1 => ?_)
  · refine iL1 dX12_throwsIf_9 ?_
    exact R_zret dX12_throwsIf_10 rfl (bI01 _) (K _ (by unfold ThI; first | (rw [if_pos (by assumption)]) | (rw [if_neg (by simp; assumption)])))
  · refine aL0 dX12_throwsIf_4 ?_
    refine iL2 dX12_throwsIf_5 ?_
    refine R_putI dX12_throwsIf_6 fX12_3 hG.o ?_
    refine iL1 dX12_throwsIf_9 ?_
    exact R_zret dX12_throwsIf_10 rfl (bI01 _) (K _ (by unfold ThI; first | (rw [if_pos (by assumption)]) | (rw [if_neg (by simp; assumption)])))
set_option maxHeartbeats 400000 in
theorem C_X12_in {d : Nat} {g : Gs} {h : Hc} {P : Po} {x a b : Int} (K : P (.inl (some (vI (bI (decide (a ≤ x ∧ x ≤ b)))))) g h) : Call (d + 0) 0 0 mX12_in [vI x, vI a, vI b] g h P := by
  refine Call_of rfl ⟨by decide +kernel, rfl⟩ (Nat.le_of_ble_eq_true rfl) rfl ?_
  suffices J1 : Run (d + 0) 0 0 mX12_in 15 [vI x, vI a, vI b] [vI (bI (decide (a ≤ x ∧ x ≤ b)))] g h P by
    refine iL0 dX12_in_0 ?_
    refine iL1 dX12_in_1 ?_
    refine R_icmp_lt dX12_in_2 (fun hb2 => ?_) (fun hb2 => ?_)
    · refine R_iconst_0 dX12_in_14 ?_
      exact topV (v := bI (decide (a ≤ x ∧ x ≤ b))) (by first | (rw [bI_t (by first | assumption | (simp; omega))]) | (rw [bI_f (by first | assumption | (simp; omega))])) J1
    · refine iL0 dX12_in_5 ?_
      refine iL2 dX12_in_6 ?_
      refine R_icmp_gt dX12_in_7 (fun hb7 => ?_) (fun hb7 => ?_)
      · refine R_iconst_0 dX12_in_14 ?_
        exact topV (v := bI (decide (a ≤ x ∧ x ≤ b))) (by first | (rw [bI_t (by first | assumption | (simp; omega))]) | (rw [bI_f (by first | assumption | (simp; omega))])) J1
      · refine R_iconst_1 dX12_in_10 ?_
        refine R_goto dX12_in_11 ?_
        exact topV (v := bI (decide (a ≤ x ∧ x ≤ b))) (by first | (rw [bI_t (by first | assumption | (simp; omega))]) | (rw [bI_f (by first | assumption | (simp; omega))])) J1
  exact R_zret dX12_in_15 rfl (bI01 _) (K)
set_option maxHeartbeats 400000 in
theorem C_X12_has {d : Nat} {g : Gs} {h : Hc} {P : Po} {x : Int} {k : Nat} (hk : k < 32) (K : P (.inl (some (vI (bI (tb x k))))) g h) : Call (d + 0) 0 0 mX12_has [vI x, vI ((k : Nat) : Int)] g h P := by
  refine Call_of rfl ⟨by decide +kernel, rfl⟩ (Nat.le_of_ble_eq_true rfl) rfl ?_
  refine iL0 dX12_has_0 ?_
  refine iL1 dX12_has_1 ?_
  refine R_ishr dX12_has_2 ?_
  refine R_iconst_1 dX12_has_3 ?_
  refine R_iand dX12_has_4 ?_
  refine topV (bitB (by omega)) ?_
  suffices J1 : Run (d + 0) 0 0 mX12_has 14 [vI x, vI ((k : Nat) : Int)] [vI (bI (tb x k))] g h P by
    refine R_iconst_1 dX12_has_5 ?_
    refine R_icmp_ne dX12_has_6 (fun hb6 => ?_) (fun hb6 => ?_)
    · refine R_iconst_0 dX12_has_13 ?_
      exact topV (v := bI (tb x k)) (by cases hq9 : tb x k <;> simp [hq9, bI] at hb6 ⊢) J1
    · refine R_iconst_1 dX12_has_9 ?_
      refine R_goto dX12_has_10 ?_
      exact topV (v := bI (tb x k)) (by cases hq9 : tb x k <;> simp [hq9, bI] at hb6 ⊢) J1
  exact R_zret dX12_has_14 rfl (bI01 _) (K)
set_option maxHeartbeats 400000 in
theorem C_X12_judges {d : Nat} {g : Gs} {h : Hc} {P : Po} {M : Nat} {w : Nat → Int} (hG : MdG g M) (hW : h (M + 1) = w) (hf : WF w) (K : P (.inl (some (vI (w 0)))) g h) : Call (d + 0) 0 0 mX12_judges [vR M] g h P := by
  refine Call_of rfl ⟨by decide +kernel, rfl⟩ (Nat.le_of_ble_eq_true rfl) rfl ?_
  refine aL0 dX12_judges_0 ?_
  refine R_getR dX12_judges_1 fX12_13.r hG.o rfl ?_
  refine R_iconst_0 dX12_judges_4 ?_
  refine ialdN (k := 0) dX12_judges_5 hG.a1 rfl (by decide) ?_
  refine topV (v := w 0) (congrFun hW _) ?_
  have hq1 := hf.jud
  exact R_iret dX12_judges_6 rfl (K)
set_option maxHeartbeats 400000 in
theorem C_X12_cases {d : Nat} {g : Gs} {h : Hc} {P : Po} {M : Nat} {w : Nat → Int} (hG : MdG g M) (hW : h (M + 1) = w) (hf : WF w) (K : P (.inl (some (vI (w 1)))) g h) : Call (d + 0) 0 0 mX12_cases [vR M] g h P := by
  refine Call_of rfl ⟨by decide +kernel, rfl⟩ (Nat.le_of_ble_eq_true rfl) rfl ?_
  refine aL0 dX12_cases_0 ?_
  refine R_getR dX12_cases_1 fX12_13.r hG.o rfl ?_
  refine R_iconst_1 dX12_cases_4 ?_
  refine ialdN (k := 1) dX12_cases_5 hG.a1 rfl (by decide) ?_
  refine topV (v := w 1) (congrFun hW _) ?_
  have hq1 := hf.cas
  exact R_iret dX12_cases_6 rfl (K)
set_option maxHeartbeats 400000 in
theorem C_X12_judgeAt {d : Nat} {g : Gs} {h : Hc} {P : Po} {a b i : Nat} (hi : i = 80 + 4 * a + b) (hb : i < 2214) (K : P (.inl (some (vI (i : Int)))) g h) : Call (d + 0) 0 0 mX12_judgeAt [vI ((a : Nat) : Int), vI ((b : Nat) : Int)] g h P := by
  refine Call_of rfl ⟨by decide +kernel, rfl⟩ (Nat.le_of_ble_eq_true rfl) rfl ?_
  refine R_bipush dX12_judgeAt_0 (by decide) ?_
  refine R_iconst_4 dX12_judgeAt_2 ?_
  refine iL0 dX12_judgeAt_3 ?_
  refine mulV dX12_judgeAt_4 (v := (((4 * a) : Nat) : Int)) (by rw [wid (by omega) (by omega)]; omega) ?_
  refine addV dX12_judgeAt_5 (v := (((80 + (4 * a)) : Nat) : Int)) (by rw [wid (by omega) (by omega)]; omega) ?_
  refine iL1 dX12_judgeAt_6 ?_
  refine addV dX12_judgeAt_7 (v := ((((80 + (4 * a)) + b) : Nat) : Int)) (by rw [wid (by omega) (by omega)]; omega) ?_
  refine topV (v := ((i : Nat) : Int)) (by rw [hi]) ?_
  exact R_iret dX12_judgeAt_8 rfl (K)
set_option maxHeartbeats 400000 in
theorem C_X12_at {d : Nat} {g : Gs} {h : Hc} {P : Po} {a b i : Nat} (hi : i = 100 + 7 * a + b) (hb : i < 2214) (K : P (.inl (some (vI (i : Int)))) g h) : Call (d + 0) 0 0 mX12_at [vI ((a : Nat) : Int), vI ((b : Nat) : Int)] g h P := by
  refine Call_of rfl ⟨by decide +kernel, rfl⟩ (Nat.le_of_ble_eq_true rfl) rfl ?_
  refine R_bipush dX12_at_0 (by decide) ?_
  refine R_bipush dX12_at_2 (by decide) ?_
  refine iL0 dX12_at_4 ?_
  refine mulV dX12_at_5 (v := (((7 * a) : Nat) : Int)) (by rw [wid (by omega) (by omega)]; omega) ?_
  refine addV dX12_at_6 (v := (((100 + (7 * a)) : Nat) : Int)) (by rw [wid (by omega) (by omega)]; omega) ?_
  refine iL1 dX12_at_7 ?_
  refine addV dX12_at_8 (v := ((((100 + (7 * a)) + b) : Nat) : Int)) (by rw [wid (by omega) (by omega)]; omega) ?_
  refine topV (v := ((i : Nat) : Int)) (by rw [hi]) ?_
  exact R_iret dX12_at_9 rfl (K)
set_option maxHeartbeats 400000 in
theorem C_X12_listAt {d : Nat} {g : Gs} {h : Hc} {P : Po} {a b i : Nat} (hi : i = 20 + 12 * a + b) (hb : i < 2214) (K : P (.inl (some (vI (i : Int)))) g h) : Call (d + 0) 0 0 mX12_listAt [vI ((a : Nat) : Int), vI ((b : Nat) : Int)] g h P := by
  refine Call_of rfl ⟨by decide +kernel, rfl⟩ (Nat.le_of_ble_eq_true rfl) rfl ?_
  refine R_bipush dX12_listAt_0 (by decide) ?_
  refine R_bipush dX12_listAt_2 (by decide) ?_
  refine iL0 dX12_listAt_4 ?_
  refine mulV dX12_listAt_5 (v := (((12 * a) : Nat) : Int)) (by rw [wid (by omega) (by omega)]; omega) ?_
  refine addV dX12_listAt_6 (v := (((20 + (12 * a)) : Nat) : Int)) (by rw [wid (by omega) (by omega)]; omega) ?_
  refine iL1 dX12_listAt_7 ?_
  refine addV dX12_listAt_8 (v := ((((20 + (12 * a)) + b) : Nat) : Int)) (by rw [wid (by omega) (by omega)]; omega) ?_
  refine topV (v := ((i : Nat) : Int)) (by rw [hi]) ?_
  exact R_iret dX12_listAt_9 rfl (K)
set_option maxHeartbeats 400000 in
theorem C_X12_ofJudge {d : Nat} {g : Gs} {h : Hc} {P : Po} {M : Nat} {w : Nat → Int} (hG : MdG g M) (hW : h (M + 1) = w) {a b i : Nat} (hi : i = 80 + 4 * a + b) (hb : i < 2214) (K : P (.inl (some (vI (w i)))) g h) : Call (d + 1) 0 0 mX12_ofJudge [vR M, vI ((a : Nat) : Int), vI ((b : Nat) : Int)] g h P := by
  refine Call_of rfl ⟨by decide +kernel, rfl⟩ (Nat.le_of_ble_eq_true rfl) rfl ?_
  refine aL0 dX12_ofJudge_0 ?_
  refine R_getR dX12_ofJudge_1 fX12_13.r hG.o rfl ?_
  refine iL1 dX12_ofJudge_4 ?_
  refine iL2 dX12_ofJudge_5 ?_
  refine invS2 rfl dX12_ofJudge_6 kX12_80 (Nat.le_of_ble_eq_true rfl) (Nat.zero_le _) (Nat.zero_le _) (C_X12_judgeAt hi hb (konI ?_))
  refine ialdN dX12_ofJudge_9 hG.a1 rfl (by omega) ?_
  refine topV (v := w (i)) ((congrFun hW _).trans (congrArg w (by omega))) ?_
  exact R_iret dX12_ofJudge_10 rfl (K)
set_option maxHeartbeats 400000 in
theorem C_X12_of {d : Nat} {g : Gs} {h : Hc} {P : Po} {M : Nat} {w : Nat → Int} (hG : MdG g M) (hW : h (M + 1) = w) {a b i : Nat} (hi : i = 100 + 7 * a + b) (hb : i < 2214) (K : P (.inl (some (vI (w i)))) g h) : Call (d + 1) 0 0 mX12_of [vR M, vI ((a : Nat) : Int), vI ((b : Nat) : Int)] g h P := by
  refine Call_of rfl ⟨by decide +kernel, rfl⟩ (Nat.le_of_ble_eq_true rfl) rfl ?_
  refine aL0 dX12_of_0 ?_
  refine R_getR dX12_of_1 fX12_13.r hG.o rfl ?_
  refine iL1 dX12_of_4 ?_
  refine iL2 dX12_of_5 ?_
  refine invS2 rfl dX12_of_6 kX12_84 (Nat.le_of_ble_eq_true rfl) (Nat.zero_le _) (Nat.zero_le _) (C_X12_at hi hb (konI ?_))
  refine ialdN dX12_of_9 hG.a1 rfl (by omega) ?_
  refine topV (v := w (i)) ((congrFun hW _).trans (congrArg w (by omega))) ?_
  exact R_iret dX12_of_10 rfl (K)
set_option maxHeartbeats 400000 in
theorem C_X12_isWaiting {d : Nat} {g : Gs} {h : Hc} {P : Po} {M : Nat} {w : Nat → Int} (hG : MdG g M) (hW : h (M + 1) = w) (hf : WF w) {c : Nat} (hc : c < 8) (K : P (.inl (some (vI (bI (decide (w (104 + 7 * c) = 0)))))) g h) : Call (d + 2) 0 0 mX12_isWaiting [vR M, vI ((c : Nat) : Int)] g h P := by
  refine Call_of rfl ⟨by decide +kernel, rfl⟩ (Nat.le_of_ble_eq_true rfl) rfl ?_
  refine aL0 dX12_isWaiting_0 ?_
  refine iL1 dX12_isWaiting_1 ?_
  refine R_iconst_4 dX12_isWaiting_2 ?_
  refine invV2 rfl dX12_isWaiting_3 kX12_87 hG.o (Nat.le_of_ble_eq_true rfl) (Nat.zero_le _) (Nat.zero_le _) (C_X12_of hG hW (b := 4) (i := 104 + 7 * c) (by omega) (by omega) (konI ?_))
  have hq1 := hf.st (c := c) (by omega)
  suffices J2 : Run (d + 2) 0 0 mX12_isWaiting 14 [vR M, vI ((c : Nat) : Int)] [vI (bI (decide (w (104 + 7 * c) = 0)))] g h P by
    refine R_if_ne dX12_isWaiting_6 (fun hb6 => ?_) (fun hb6 => ?_)
    · refine R_iconst_0 dX12_isWaiting_13 ?_
      exact topV (v := bI (decide (w (104 + 7 * c) = 0))) (by first | (rw [bI_t (by first | assumption | (simp; omega))]) | (rw [bI_f (by first | assumption | (simp; omega))])) J2
    · refine R_iconst_1 dX12_isWaiting_9 ?_
      refine R_goto dX12_isWaiting_10 ?_
      exact topV (v := bI (decide (w (104 + 7 * c) = 0))) (by first | (rw [bI_t (by first | assumption | (simp; omega))]) | (rw [bI_f (by first | assumption | (simp; omega))])) J2
  exact R_zret dX12_isWaiting_14 rfl (bI01 _) (K)
set_option maxHeartbeats 400000 in
theorem C_X12_inState {d : Nat} {g : Gs} {h : Hc} {P : Po} {M : Nat} {w : Nat → Int} (hG : MdG g M) (hW : h (M + 1) = w) (hf : WF w) {s : Int} (K : P (.inl (some (vI (inSt w s)))) g h) : Call (d + 2) 0 0 mX12_inState [vR M, vI s] g h P := by
  refine Call_of rfl ⟨by decide +kernel, rfl⟩ (Nat.le_of_ble_eq_true rfl) rfl ?_
  refine R_iconst_0 dX12_inState_0 ?_
  refine iS2 dX12_inState_1 ?_
  refine R_iconst_0 dX12_inState_2 ?_
  refine iS3 dX12_inState_3 ?_
  have hcs := hf.cas
  refine loopN ((w 1).toNat) (fun c => Run (d + 2) 0 0 mX12_inState 4 [vR M, vI s, vI (bset (inStP w s) c), vI ((c : Nat) : Int)] [] g h P) (fun c hcnc ihc => ?_) (0) (Nat.zero_le _)
  refine iL3 dX12_inState_4 ?_
  refine aL0 dX12_inState_5 ?_
  refine invV0 rfl dX12_inState_6 kX12_90 hG.o (Nat.le_of_ble_eq_true rfl) (Nat.zero_le _) (Nat.zero_le _) (C_X12_cases hG hW hf (konI ?_))
  have hcs := hf.cas
  refine R_icmp_ge dX12_inState_9 (fun hb9 => ?_) (fun hb9 => ?_)
  · have e9 : c = (w 1).toNat := by omega
    subst e9
    refine iL2 dX12_inState_38 ?_
    exact R_iret dX12_inState_39 rfl (K)
  · refine iL2 dX12_inState_12 ?_
    suffices J1 : Run (d + 2) 0 0 mX12_inState 30 [vR M, vI s, vI (bset (inStP w s) c), vI ((c : Nat) : Int)] [vI (obI (inStP w s c) c), vI (bset (inStP w s) c)] g h P by
      refine aL0 dX12_inState_13 ?_
      refine iL3 dX12_inState_14 ?_
      refine R_iconst_4 dX12_inState_15 ?_
      refine invV2 rfl dX12_inState_16 kX12_87 hG.o (Nat.le_of_ble_eq_true rfl) (Nat.zero_le _) (Nat.zero_le _) (C_X12_of hG hW (b := 4) (i := 104 + 7 * c) (by omega) (by omega) (konI ?_))
      have hq2 := hf.st (c := c) (by omega)
      refine iL1 dX12_inState_19 ?_
      refine R_icmp_ne dX12_inState_20 (fun hb20 => ?_) (fun hb20 => ?_)
      · refine R_iconst_0 dX12_inState_29 ?_
        exact topV (v := obI (inStP w s c) c) (by first | exact obI_t (by simp [inStP]; omega) | exact obI_f (by simp [inStP]; omega)) J1
      · refine R_iconst_1 dX12_inState_23 ?_
        refine iL3 dX12_inState_24 ?_
        refine R_ishl dX12_inState_25 ?_
        refine R_goto dX12_inState_26 ?_
        exact topV (v := obI (inStP w s c) c) (by first | exact obI_t (by simp [inStP]; omega) | exact obI_f (by simp [inStP]; omega)) J1
    refine R_ior dX12_inState_30 ?_
    refine iS2 dX12_inState_31 ?_
    refine iInc3 dX12_inState_32 (winc (by omega)) ?_
    refine R_goto dX12_inState_35 ?_
    exact eqI2 (bset_ob) (ihc (by omega))
set_option maxHeartbeats 400000 in
theorem C_X12_placeOf {d : Nat} {g : Gs} {h : Hc} {P : Po} {M : Nat} {w : Nat → Int} (hG : MdG g M) (hW : h (M + 1) = w) (hf : WF w) {x : Int} (hx : 0 ≤ x) (K : P (.inl (some (vI (placeOf w x)))) g h) : Call (d + 0) 0 0 mX12_placeOf [vR M, vI x] g h P := by
  refine Call_of rfl ⟨by decide +kernel, rfl⟩ (Nat.le_of_ble_eq_true rfl) rfl ?_
  refine R_iconst_m1 dX12_placeOf_0 ?_
  refine iS2 dX12_placeOf_1 ?_
  refine R_iconst_0 dX12_placeOf_2 ?_
  refine iS3 dX12_placeOf_3 ?_
  refine loopN (60) (fun p => Run (d + 0) 0 0 mX12_placeOf 4 [vR M, vI x, vI (lastB (placeP w x) p), vI ((p : Nat) : Int)] [] g h P) (fun p hcnp ihp => ?_) (0) (Nat.zero_le _)
  refine iL3 dX12_placeOf_4 ?_
  refine R_bipush dX12_placeOf_5 (by decide) ?_
  refine R_icmp_ge dX12_placeOf_7 (fun hb7 => ?_) (fun hb7 => ?_)
  · have e9 : p = 60 := by omega
    subst e9
    refine iL2 dX12_placeOf_35 ?_
    exact R_iret dX12_placeOf_36 rfl (by rw [← placeOf_last hf hx] at K; exact K)
  · refine aL0 dX12_placeOf_10 ?_
    refine R_getR dX12_placeOf_11 fX12_13.r hG.o rfl ?_
    refine R_bipush dX12_placeOf_14 (by decide) ?_
    refine iL3 dX12_placeOf_16 ?_
    refine addV dX12_placeOf_17 (v := (((20 + p) : Nat) : Int)) (by rw [wid (by omega) (by omega)]; omega) ?_
    refine ialdN dX12_placeOf_18 hG.a1 rfl (by omega) ?_
    refine topV (v := w (20 + p)) (congrFun hW _) ?_
    refine iL1 dX12_placeOf_19 ?_
    refine R_icmp_ne dX12_placeOf_20 (fun hb20 => ?_) (fun hb20 => ?_)
    · refine iL2 dX12_placeOf_27 ?_
      refine iS2 dX12_placeOf_28 ?_
      refine iInc3 dX12_placeOf_29 (winc (by omega)) ?_
      refine R_goto dX12_placeOf_32 ?_
      exact eqI2 (by first | (rw [lastB_t (by simp [placeP]; omega)]) | (rw [lastB_f (by simp [placeP]; omega)])) (ihp (by omega))
    · refine iL3 dX12_placeOf_23 ?_
      refine R_goto dX12_placeOf_24 ?_
      refine iS2 dX12_placeOf_28 ?_
      refine iInc3 dX12_placeOf_29 (winc (by omega)) ?_
      refine R_goto dX12_placeOf_32 ?_
      exact eqI2 (by first | (rw [lastB_t (by simp [placeP]; omega)]) | (rw [lastB_f (by simp [placeP]; omega)])) (ihp (by omega))
def noB (x n : Int) : Bool := !decide (0 ≤ x ∧ x < n)
theorem noB_f {x n : Int} (h : noB x n = false) : 0 ≤ x ∧ x < n := by simpa [noB] using h
theorem noB_t {x n : Int} (h : noB x n = true) : ¬ (0 ≤ x ∧ x < n) := by unfold noB at h; simp at h; omega
set_option maxHeartbeats 400000 in
theorem C_X12_noJudge {d : Nat} {g : Gs} {h : Hc} {P : Po} {M : Nat} {w : Nat → Int} (hG : MdG g M) (hW : h (M + 1) = w) (hf : WF w) {x : Int} (K : P (.inl (some (vI (bI (noB x (w 0)))))) g h) : Call (d + 1) 0 0 mX12_noJudge [vR M, vI x] g h P := by
  refine Call_of rfl ⟨by decide +kernel, rfl⟩ (Nat.le_of_ble_eq_true rfl) rfl ?_
  refine iL1 dX12_noJudge_0 ?_
  refine R_iconst_0 dX12_noJudge_1 ?_
  refine aL0 dX12_noJudge_2 ?_
  refine invV0 rfl dX12_noJudge_3 kX12_98 hG.o (Nat.le_of_ble_eq_true rfl) (Nat.zero_le _) (Nat.zero_le _) (C_X12_judges hG hW hf (konI ?_))
  have hjd := hf.jud
  refine R_iconst_1 dX12_noJudge_6 ?_
  refine subV dX12_noJudge_7 (wid (by omega) (by omega)) ?_
  refine invS3 rfl dX12_noJudge_8 kX12_101 (Nat.le_of_ble_eq_true rfl) (Nat.zero_le _) (Nat.zero_le _) (C_X12_in (konI ?_))
  suffices J1 : Run (d + 1) 0 0 mX12_noJudge 19 [vR M, vI x] [vI (bI (noB x (w 0)))] g h P by
    refine R_ifB_ne dX12_noJudge_11 (fun hb11 => ?_) (fun hb11 => ?_)
    · refine R_iconst_0 dX12_noJudge_18 ?_
      exact topV (v := bI (noB x (w 0))) (by first | (rw [bI_t (by simp at hb11; simp [noB]; omega)]) | (rw [bI_f (by simp at hb11; simp [noB]; omega)])) J1
    · refine R_iconst_1 dX12_noJudge_14 ?_
      refine R_goto dX12_noJudge_15 ?_
      exact topV (v := bI (noB x (w 0))) (by first | (rw [bI_t (by simp at hb11; simp [noB]; omega)]) | (rw [bI_f (by simp at hb11; simp [noB]; omega)])) J1
  exact R_zret dX12_noJudge_19 rfl (bI01 _) (K)
set_option maxHeartbeats 400000 in
theorem C_X12_noCase {d : Nat} {g : Gs} {h : Hc} {P : Po} {M : Nat} {w : Nat → Int} (hG : MdG g M) (hW : h (M + 1) = w) (hf : WF w) {x : Int} (K : P (.inl (some (vI (bI (noB x (w 1)))))) g h) : Call (d + 1) 0 0 mX12_noCase [vR M, vI x] g h P := by
  refine Call_of rfl ⟨by decide +kernel, rfl⟩ (Nat.le_of_ble_eq_true rfl) rfl ?_
  refine iL1 dX12_noCase_0 ?_
  refine R_iconst_0 dX12_noCase_1 ?_
  refine aL0 dX12_noCase_2 ?_
  refine invV0 rfl dX12_noCase_3 kX12_90 hG.o (Nat.le_of_ble_eq_true rfl) (Nat.zero_le _) (Nat.zero_le _) (C_X12_cases hG hW hf (konI ?_))
  have hcs := hf.cas
  refine R_iconst_1 dX12_noCase_6 ?_
  refine subV dX12_noCase_7 (wid (by omega) (by omega)) ?_
  refine invS3 rfl dX12_noCase_8 kX12_101 (Nat.le_of_ble_eq_true rfl) (Nat.zero_le _) (Nat.zero_le _) (C_X12_in (konI ?_))
  suffices J1 : Run (d + 1) 0 0 mX12_noCase 19 [vR M, vI x] [vI (bI (noB x (w 1)))] g h P by
    refine R_ifB_ne dX12_noCase_11 (fun hb11 => ?_) (fun hb11 => ?_)
    · refine R_iconst_0 dX12_noCase_18 ?_
      exact topV (v := bI (noB x (w 1))) (by first | (rw [bI_t (by simp at hb11; simp [noB]; omega)]) | (rw [bI_f (by simp at hb11; simp [noB]; omega)])) J1
    · refine R_iconst_1 dX12_noCase_14 ?_
      refine R_goto dX12_noCase_15 ?_
      exact topV (v := bI (noB x (w 1))) (by first | (rw [bI_t (by simp at hb11; simp [noB]; omega)]) | (rw [bI_f (by simp at hb11; simp [noB]; omega)])) J1
  exact R_zret dX12_noCase_19 rfl (bI01 _) (K)
set_option maxHeartbeats 400000 in
theorem C_X12_noHour {d : Nat} {g : Gs} {h : Hc} {P : Po} {x : Int} (K : P (.inl (some (vI (bI (noB x 12))))) g h) : Call (d + 1) 0 0 mX12_noHour [vI x] g h P := by
  refine Call_of rfl ⟨by decide +kernel, rfl⟩ (Nat.le_of_ble_eq_true rfl) rfl ?_
  refine iL0 dX12_noHour_0 ?_
  refine R_iconst_0 dX12_noHour_1 ?_
  refine R_bipush dX12_noHour_2 (by decide) ?_
  refine invS3 rfl dX12_noHour_4 kX12_101 (Nat.le_of_ble_eq_true rfl) (Nat.zero_le _) (Nat.zero_le _) (C_X12_in (konI ?_))
  suffices J1 : Run (d + 1) 0 0 mX12_noHour 15 [vI x] [vI (bI (noB x 12))] g h P by
    refine R_ifB_ne dX12_noHour_7 (fun hb7 => ?_) (fun hb7 => ?_)
    · refine R_iconst_0 dX12_noHour_14 ?_
      exact topV (v := bI (noB x 12)) (by first | (rw [bI_t (by simp at hb7; simp [noB]; omega)]) | (rw [bI_f (by simp at hb7; simp [noB]; omega)])) J1
    · refine R_iconst_1 dX12_noHour_10 ?_
      refine R_goto dX12_noHour_11 ?_
      exact topV (v := bI (noB x 12)) (by first | (rw [bI_t (by simp at hb7; simp [noB]; omega)]) | (rw [bI_f (by simp at hb7; simp [noB]; omega)])) J1
  exact R_zret dX12_noHour_15 rfl (bI01 _) (K)
