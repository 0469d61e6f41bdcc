/-! JUDGES TWO BY TWO: the first of the best ways, and sets laid one behind another -/
def rm2 (fr : Nat → Bool) (j k : Nat) : Nat → Bool := fun x => fr x && (!decide (x = j) && !decide (x = k))
/-- the most, and with whom j is in the first way of it -/
def bsF (wt : Nat → Nat → Int) : Nat → Nat → (Nat → Bool) → Int × Int
  | 0, _, _ => (0, -1)
  | f + 1, j, fr => foldN (fun i a => if (fr j = true ∧ fr (j + 1 + i) = true) ∧ a.1 < wt j (j + 1 + i) + (bsF wt f (j + 1) (rm2 fr j (j + 1 + i))).1 then (wt j (j + 1 + i) + (bsF wt f (j + 1) (rm2 fr j (j + 1 + i))).1, ((j + 1 + i : Nat) : Int)) else a) ((bsF wt f (j + 1) fr).1, -1) f
def bsS (wt : Nat → Nat → Int) (f j : Nat) (fr : Nat → Bool) (i : Nat) (a : Int × Int) : Int × Int := if (fr j = true ∧ fr (j + 1 + i) = true) ∧ a.1 < wt j (j + 1 + i) + (bsF wt f (j + 1) (rm2 fr j (j + 1 + i))).1 then (wt j (j + 1 + i) + (bsF wt f (j + 1) (rm2 fr j (j + 1 + i))).1, ((j + 1 + i : Nat) : Int)) else a
theorem bsF_s (wt : Nat → Nat → Int) (f j : Nat) (fr : Nat → Bool) : bsF wt (f + 1) j fr = foldN (bsS wt f j fr) ((bsF wt f (j + 1) fr).1, -1) f := rfl
def ngB (pa : Nat → Int) : Nat → Bool := fun k => decide (pa k < 0)
def rcF (wt : Nat → Nat → Int) : Nat → Nat → (Nat → Int) → (Nat → Int)
  | 0, _, pa => pa
  | f + 1, j, pa => if (bsF wt (f + 1) j (ngB pa)).2 < 0 then rcF wt f (j + 1) pa else rcF wt f (j + 1) (updW (updW pa j (bsF wt (f + 1) j (ngB pa)).2) (bsF wt (f + 1) j (ngB pa)).2.toNat j)
theorem rcF_s (wt : Nat → Nat → Int) (f j : Nat) (pa : Nat → Int) : rcF wt (f + 1) j pa = if (bsF wt (f + 1) j (ngB pa)).2 < 0 then rcF wt f (j + 1) pa else rcF wt f (j + 1) (updW (updW pa j (bsF wt (f + 1) j (ngB pa)).2) (bsF wt (f + 1) j (ngB pa)).2.toNat j) := rfl
theorem ngB_upd {pa : Nat → Int} {j k : Nat} (h : j ≠ k) : ngB (updW (updW pa j (k : Int)) k j) = rm2 (ngB pa) j k := by
  funext x
  unfold ngB rm2
  by_cases e1 : x = k
  · subst e1; rw [updW_s]; simp
  · rw [updW_n e1]
    by_cases e2 : x = j
    · subst e2; rw [updW_s]; simp
    · rw [updW_n e2]; simp [e1, e2]
/-- the running best, and who it is -/
def rnF (wt : Nat → Nat → Int) (f j : Nat) (fr : Nat → Bool) : Nat → Int × Int := foldN (bsS wt f j fr) ((bsF wt f (j + 1) fr).1, -1)
theorem rnF_s (wt : Nat → Nat → Int) (f j : Nat) (fr : Nat → Bool) (n : Nat) : rnF wt f j fr (n + 1) = bsS wt f j fr n (rnF wt f j fr n) := rfl
theorem rnF_ch (wt : Nat → Nat → Int) (f j : Nat) (fr : Nat → Bool) : ∀ n, (rnF wt f j fr n).2 = -1 ∨ ∃ i : Nat, i < n ∧ (rnF wt f j fr n).2 = ((j + 1 + i : Nat) : Int) ∧ fr j = true ∧ fr (j + 1 + i) = true
  | 0 => Or.inl rfl
  | n + 1 => by
    rw [rnF_s]
    unfold bsS
    split
    · rename_i q; exact Or.inr ⟨n, Nat.lt_succ_self n, rfl, q.1.1, q.1.2⟩
    · rcases rnF_ch wt f j fr n with h | ⟨i, h1, h2, h3⟩
      · exact Or.inl h
      · exact Or.inr ⟨i, by omega, h2, h3⟩
def rcI (wt : Nat → Nat → Int) (f j : Nat) (pa : Nat → Int) (n : Nat) : Nat → Int := if (rnF wt f j (ngB pa) n).2 < 0 then rcF wt f (j + 1) pa else rcF wt f (j + 1) (updW (updW pa j (rnF wt f j (ngB pa) n).2) (rnF wt f j (ngB pa) n).2.toNat j)
theorem prF_eq {wt : Nat → Nat → Int} : ∀ (f j : Nat) (tot : Int) (pa : Nat → Int) (b : PrS), prF wt f j tot pa b = if b.1 < tot + (bsF wt f j (ngB pa)).1 then (tot + (bsF wt f j (ngB pa)).1, rcF wt f j pa) else b
  | 0, j, tot, pa, b => by
    unfold prF bsF rcF
    rw [Int.add_zero]
  | f + 1, j, tot, pa, b => by
    have key : ∀ n, foldN (prS wt f j tot pa) (prF wt f (j + 1) tot pa b) n = if b.1 < tot + (rnF wt f j (ngB pa) n).1 then (tot + (rnF wt f j (ngB pa) n).1, rcI wt f j pa n) else b := by
      intro n
      induction n with
      | zero =>
        show prF wt f (j + 1) tot pa b = _
        rw [prF_eq f (j + 1) tot pa b]
        rfl
      | succ n ih =>
        rw [foldN_s, ih, rnF_s]
        have hch := rnF_ch wt f j (ngB pa) n
        by_cases hq : pa j < 0 ∧ pa (j + 1 + n) < 0
        · have hfr : ngB pa j = true ∧ ngB pa (j + 1 + n) = true := ⟨decide_eq_true hq.1, decide_eq_true hq.2⟩
          have hps : ∀ r, prS wt f j tot pa n r = if r.1 < tot + wt j (j + 1 + n) + (bsF wt f (j + 1) (rm2 (ngB pa) j (j + 1 + n))).1 then (tot + wt j (j + 1 + n) + (bsF wt f (j + 1) (rm2 (ngB pa) j (j + 1 + n))).1, rcF wt f (j + 1) (updW (updW pa j ((j + 1 + n : Nat) : Int)) (j + 1 + n) j)) else r := fun r => by
            unfold prS
            rw [if_pos hq, prF_eq f (j + 1), ngB_upd (by omega)]
          rw [hps]
          generalize hv : (bsF wt f (j + 1) (rm2 (ngB pa) j (j + 1 + n))).1 = v at *
          by_cases hlt : (rnF wt f j (ngB pa) n).1 < wt j (j + 1 + n) + v
          · have e1 : bsS wt f j (ngB pa) n (rnF wt f j (ngB pa) n) = (wt j (j + 1 + n) + v, ((j + 1 + n : Nat) : Int)) := by unfold bsS; rw [hv, if_pos ⟨hfr, hlt⟩]
            have e2 : rcI wt f j pa (n + 1) = rcF wt f (j + 1) (updW (updW pa j ((j + 1 + n : Nat) : Int)) (j + 1 + n) j) := by
              unfold rcI
              rw [rnF_s, e1]
              simp only
              rw [if_neg (by omega), show (((j + 1 + n : Nat) : Int)).toNat = j + 1 + n by omega]
            rw [e1, e2]
            by_cases h1 : b.1 < tot + (rnF wt f j (ngB pa) n).1
            · rw [if_pos h1]
              simp only
              rw [if_pos (by omega), if_pos (by omega), Int.add_assoc]
            · rw [if_neg h1]
              simp only
              by_cases h2 : b.1 < tot + (wt j (j + 1 + n) + v)
              · rw [if_pos (by omega), if_pos h2, Int.add_assoc]
              · rw [if_neg (by omega), if_neg h2]
          · have e1 : bsS wt f j (ngB pa) n (rnF wt f j (ngB pa) n) = rnF wt f j (ngB pa) n := by unfold bsS; rw [hv, if_neg (fun z => hlt z.2)]
            have e2 : rcI wt f j pa (n + 1) = rcI wt f j pa n := by unfold rcI; rw [rnF_s, e1]
            rw [e1, e2]
            by_cases h1 : b.1 < tot + (rnF wt f j (ngB pa) n).1
            · rw [if_pos h1]
              simp only
              rw [if_neg (by omega)]
            · rw [if_neg h1]
              rw [if_neg (by omega)]
        · have e0 : ∀ r, prS wt f j tot pa n r = r := fun r => by unfold prS; rw [if_neg hq]
          have e1 : bsS wt f j (ngB pa) n (rnF wt f j (ngB pa) n) = rnF wt f j (ngB pa) n := by
            unfold bsS
            rw [if_neg]
            rintro ⟨⟨a, c⟩, _⟩
            exact hq ⟨of_decide_eq_true a, of_decide_eq_true c⟩
          have e2 : rcI wt f j pa (n + 1) = rcI wt f j pa n := by unfold rcI; rw [rnF_s, e1]
          rw [e0, e1, e2]
    rw [prF_s, key f]
    rfl
theorem bsF_cong {wt : Nat → Nat → Int} : ∀ (f j : Nat) {fr fr' : Nat → Bool}, (∀ x, j ≤ x → x < j + f → fr x = fr' x) → bsF wt f j fr = bsF wt f j fr'
  | 0, _, _, _, _ => rfl
  | f + 1, j, fr, fr', h => by
    rw [bsF_s, bsF_s, bsF_cong f (j + 1) (fr := fr) (fr' := fr') (fun x h1 h2 => h x (by omega) (by omega))]
    refine foldN_cong (fun i hi a => ?_)
    unfold bsS
    rw [h j (Nat.le_refl _) (by omega), h (j + 1 + i) (by omega) (by omega), bsF_cong f (j + 1) (fr := rm2 fr j (j + 1 + i)) (fr' := rm2 fr' j (j + 1 + i)) (fun x h1 h2 => by unfold rm2; rw [h x (by omega) (by omega)])]
theorem bsF_skip {wt : Nat → Nat → Int} {f j : Nat} {fr : Nat → Bool} (h : fr j = false) : bsF wt (f + 1) j fr = ((bsF wt f (j + 1) fr).1, -1) := by
  rw [bsF_s]
  refine foldN_id (fun k _ x => ?_)
  unfold bsS
  rw [if_neg (fun q => by rw [h] at q; exact absurd q.1.1 (by decide))]
theorem bsF_rng {wt : Nat → Nat → Int} (hw : ∀ a b, 0 ≤ wt a b ∧ wt a b ≤ 8) : ∀ (f j : Nat) (fr : Nat → Bool), 0 ≤ (bsF wt f j fr).1 ∧ (bsF wt f j fr).1 ≤ 8 * (f : Int)
  | 0, _, _ => by show (0 : Int) ≤ 0 ∧ (0 : Int) ≤ 8 * ((0 : Nat) : Int); omega
  | f + 1, j, fr => by
    rw [bsF_s]
    have key : ∀ n, 0 ≤ (foldN (bsS wt f j fr) ((bsF wt f (j + 1) fr).1, -1) n).1 ∧ (foldN (bsS wt f j fr) ((bsF wt f (j + 1) fr).1, -1) n).1 ≤ 8 * ((f + 1 : Nat) : Int) := by
      intro n
      induction n with
      | zero => have := bsF_rng hw f (j + 1) fr; exact ⟨this.1, by show (bsF wt f (j + 1) fr).1 ≤ _; omega⟩
      | succ n ih =>
        rw [foldN_s]
        unfold bsS
        split
        · have h1 := bsF_rng hw f (j + 1) (rm2 fr j (j + 1 + n))
          have h2 := hw j (j + 1 + n)
          simp only
          omega
        · exact ih
    exact key f
theorem bsF_down {wt : Nat → Nat → Int} {fr : Nat → Bool} {j : Nat} (h : ∀ x, x < j → fr x = false) : ∀ k f : Nat, k ≤ j → (bsF wt (j - k + f) k fr).1 = (bsF wt f j fr).1 := by
  intro k f hk
  have key : ∀ n k, j - k = n → k ≤ j → (bsF wt (n + f) k fr).1 = (bsF wt f j fr).1 := by
    intro n
    induction n with
    | zero => intro k h1 h2; rw [show k = j by omega, Nat.zero_add]
    | succ n ih =>
      intro k h1 h2
      rw [show n + 1 + f = (n + f) + 1 by omega, bsF_skip (h k (by omega))]
      exact ih (k + 1) (by omega) (by omega)
  exact key _ k rfl hk
/-- the running best: the first of the most -/
theorem rnF_best {wt : Nat → Nat → Int} {f j : Nat} {fr : Nat → Bool} : ∀ n, ((rnF wt f j fr n).2 = -1 ∧ (rnF wt f j fr n).1 = (bsF wt f (j + 1) fr).1 ∧ ∀ i, i < n → fr j = true → fr (j + 1 + i) = true → wt j (j + 1 + i) + (bsF wt f (j + 1) (rm2 fr j (j + 1 + i))).1 ≤ (rnF wt f j fr n).1) ∨
    ∃ i, i < n ∧ (fr j = true ∧ fr (j + 1 + i) = true) ∧ (rnF wt f j fr n).2 = ((j + 1 + i : Nat) : Int) ∧ (rnF wt f j fr n).1 = wt j (j + 1 + i) + (bsF wt f (j + 1) (rm2 fr j (j + 1 + i))).1 ∧ (bsF wt f (j + 1) fr).1 < (rnF wt f j fr n).1 ∧ (∀ i', i' < i → fr (j + 1 + i') = true → wt j (j + 1 + i') + (bsF wt f (j + 1) (rm2 fr j (j + 1 + i'))).1 < (rnF wt f j fr n).1) ∧ ∀ i', i' < n → fr (j + 1 + i') = true → wt j (j + 1 + i') + (bsF wt f (j + 1) (rm2 fr j (j + 1 + i'))).1 ≤ (rnF wt f j fr n).1
  | 0 => Or.inl ⟨rfl, rfl, fun _ h => absurd h (Nat.not_lt_zero _)⟩
  | n + 1 => by
    have ih := rnF_best (wt := wt) (f := f) (j := j) (fr := fr) n
    rw [rnF_s]
    generalize rnF wt f j fr n = a at ih ⊢
    unfold bsS
    by_cases hq : (fr j = true ∧ fr (j + 1 + n) = true) ∧ a.1 < wt j (j + 1 + n) + (bsF wt f (j + 1) (rm2 fr j (j + 1 + n))).1
    · rw [if_pos hq]
      refine Or.inr ⟨n, Nat.lt_succ_self n, hq.1, rfl, rfl, ?_, ?_, ?_⟩
      · rcases ih with ⟨_, h2, _⟩ | ⟨i, _, _, _, _, h5, _⟩
        · show _ < wt j (j + 1 + n) + _; rw [← h2]; exact hq.2
        · exact Int.lt_trans h5 hq.2
      · intro i' hi' hfi
        rcases ih with ⟨_, h2, h3⟩ | ⟨i, _, _, _, _, _, _, h7⟩
        · exact Int.lt_of_le_of_lt (h3 i' hi' hq.1.1 hfi) hq.2
        · exact Int.lt_of_le_of_lt (h7 i' hi' hfi) hq.2
      · intro i' hi' hfi
        by_cases e : i' = n
        · subst e; exact Int.le_refl _
        · rcases ih with ⟨_, h2, h3⟩ | ⟨i, _, _, _, _, _, _, h7⟩
          · exact Int.le_of_lt (Int.lt_of_le_of_lt (h3 i' (by omega) hq.1.1 hfi) hq.2)
          · exact Int.le_of_lt (Int.lt_of_le_of_lt (h7 i' (by omega) hfi) hq.2)
    · rw [if_neg hq]
      rcases ih with ⟨h1, h2, h3⟩ | ⟨i, h1, h2, h3, h4, h5, h6, h7⟩
      · refine Or.inl ⟨h1, h2, fun i' hi' hj hfi => ?_⟩
        by_cases e : i' = n
        · subst e; exact Int.not_lt.mp (fun z => hq ⟨⟨hj, hfi⟩, z⟩)
        · exact h3 i' (by omega) hj hfi
      · refine Or.inr ⟨i, by omega, h2, h3, h4, h5, h6, fun i' hi' hfi => ?_⟩
        by_cases e : i' = n
        · subst e; exact Int.not_lt.mp (fun z => hq ⟨⟨h2.1, hfi⟩, z⟩)
        · exact h7 i' (by omega) hfi
theorem rcF_keep {wt : Nat → Nat → Int} : ∀ (f j : Nat) (pa : Nat → Int) (x : Nat), (x < j ∨ ¬ pa x < 0) → rcF wt f j pa x = pa x
  | 0, _, _, _, _ => rfl
  | f + 1, j, pa, x, h => by
    rw [rcF_s]
    have hch := rnF_ch wt f j (ngB pa) f
    split
    · exact rcF_keep f (j + 1) pa x (by omega)
    · rename_i hs
      rcases hch with q | ⟨i, h1, h2, h3, h4⟩
      · exact absurd (show (bsF wt (f + 1) j (ngB pa)).2 < 0 by show (rnF wt f j (ngB pa) f).2 < 0; omega) hs
      · have e : (bsF wt (f + 1) j (ngB pa)).2 = ((j + 1 + i : Nat) : Int) := h2
        rw [e, show (((j + 1 + i : Nat) : Int)).toNat = j + 1 + i by omega]
        have n1 : x ≠ j := fun e2 => by
          subst e2
          rcases h with h | h
          · omega
          · exact h (of_decide_eq_true h3)
        have n2 : x ≠ j + 1 + i := fun e2 => by
          rcases h with h | h
          · omega
          · rw [e2] at h; exact h (of_decide_eq_true h4)
        rw [rcF_keep f (j + 1) _ x (by rw [updW_n n2, updW_n n1]; omega), updW_n n2, updW_n n1]
