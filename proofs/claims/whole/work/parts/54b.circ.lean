/-! CIRCUITS: those who ask, and those who choose one behind another -/
theorem amx_ex {p : Nat → Bool} {v : Nat → Int} : ∀ {n k : Nat}, k < n → p k = true → 0 ≤ amx p v n
  | 0, _, h, _ => absurd h (Nat.not_lt_zero _)
  | n + 1, k, h, hp => by
    rw [amx_s]
    split
    · omega
    · rename_i hno
      by_cases e : k = n
      · subst e
        have hr := amx_lt p v k
        by_cases q : amx p v k < 0
        · exact absurd ⟨hp, Or.inl q⟩ hno
        · omega
      · exact amx_ex (n := n) (k := k) (by omega) hp
theorem amx_p {p : Nat → Bool} {v : Nat → Int} {n : Nat} (h : 0 ≤ amx p v n) : (amx p v n).toNat < n ∧ p (amx p v n).toNat = true := by
  rcases amx_rng p v n with e | ⟨k, h1, h2, h3⟩
  · omega
  · rw [h2]; exact ⟨by omega, by simpa using h3⟩
theorem amx_opt {p : Nat → Bool} {v : Nat → Int} : ∀ {n k : Nat}, k < n → p k = true → v k ≤ v (amx p v n).toNat ∧ (v k = v (amx p v n).toNat → (amx p v n).toNat ≤ k)
  | 0, _, h, _ => absurd h (Nat.not_lt_zero _)
  | n + 1, k, h, hp => by
    rw [amx_s]
    by_cases c : p n = true ∧ (amx p v n < 0 ∨ v (amx p v n).toNat < v n)
    · rw [if_pos c, show ((n : Int)).toNat = n by omega]
      by_cases e : k = n
      · subst e; exact ⟨Int.le_refl _, fun _ => Nat.le_refl _⟩
      · have h0 := amx_ex (v := v) (n := n) (k := k) (by omega) hp
        have h1 := amx_opt (v := v) (n := n) (k := k) (by omega) hp
        have h2 : v (amx p v n).toNat < v n := by
          rcases c.2 with q | q
          · omega
          · exact q
        exact ⟨by omega, fun q => by omega⟩
    · rw [if_neg c]
      by_cases e : k = n
      · subst e
        by_cases q : amx p v k < 0
        · exact absurd ⟨hp, Or.inl q⟩ c
        · have hr := amx_lt p v k
          have h2 : ¬ v (amx p v k).toNat < v k := fun q2 => c ⟨hp, Or.inr q2⟩
          exact ⟨by omega, fun _ => by omega⟩
      · exact amx_opt (n := n) (k := k) (by omega) hp
/-- few values leave one out -/
theorem left_out {n N : Nat} (f : Nat → Int) (h : n < N) : ∃ k, k < N ∧ ∀ m, m < n → f m ≠ (k : Int) := by
  have h1 : cntB (fun k => decide (∃ m, m < n ∧ f m = (k : Int))) N ≤ n := by
    have hc : ∀ k : Nat, ∃ m, (∃ m, m < n ∧ f m = (k : Int)) → m < n ∧ f m = (k : Int) := fun k => by
      by_cases q : ∃ m, m < n ∧ f m = (k : Int)
      · obtain ⟨m, hm⟩ := q; exact ⟨m, fun _ => hm⟩
      · exact ⟨0, fun q2 => absurd q2 q⟩
    have := cnt_inj (P := fun k => decide (∃ m, m < n ∧ f m = (k : Int))) (fun k => Classical.choose (hc k)) (N := n) N (fun _ => true) (fun k _ hp => ⟨(Classical.choose_spec (hc k) (of_decide_eq_true hp)).1, rfl⟩) (fun a b _ _ ha hb e => by
      have q1 := (Classical.choose_spec (hc a) (of_decide_eq_true ha)).2
      have q2 := (Classical.choose_spec (hc b) (of_decide_eq_true hb)).2
      rw [e] at q1
      omega)
    rw [cntB_true] at this
    exact this
  have key : ∀ M, M ≤ N → (∀ k, k < M → ∃ m, m < n ∧ f m = (k : Int)) → cntB (fun k => decide (∃ m, m < n ∧ f m = (k : Int))) M = M := by
    intro M hM hall
    rw [show cntB (fun k => decide (∃ m, m < n ∧ f m = (k : Int))) M = cntB (fun _ => true) M from cntB_cong (fun k hk => decide_eq_true (hall k hk)), cntB_true]
  by_cases q : ∃ k, k < N ∧ ∀ m, m < n → f m ≠ (k : Int)
  · exact q
  · exfalso
    have := key N (Nat.le_refl _) (fun k hk => by
      by_cases q2 : ∃ m, m < n ∧ f m = (k : Int)
      · exact q2
      · exact absurd ⟨k, hk, fun m hm e => q2 ⟨m, hm, e⟩⟩ q)
    omega
/-- judges as they choose, one behind another, and their circuits -/
def stC (w : Nat → Int) : Nat → Int × Int := foldN (fun _ a => (orI a.1 (shlI 1 (hunA w a.1)), orI a.2 (shlI 1 (deaA w (hunA w a.1).toNat a.2)))) (0, 0)
def jS (w : Nat → Int) (n : Nat) : Int := hunA w (stC w n).1
def cS (w : Nat → Int) (n : Nat) : Int := deaA w (jS w n).toNat (stC w n).2
theorem stC_s (w : Nat → Int) (n : Nat) : stC w (n + 1) = (orI (stC w n).1 (shlI 1 (jS w n)), orI (stC w n).2 (shlI 1 (cS w n))) := rfl
def SerOK (w : Nat → Int) (n : Nat) : Prop := (∀ m, m < n → (0 ≤ jS w m ∧ jS w m < w 0) ∧ 0 ≤ cS w m ∧ cS w m < 5) ∧ (∀ a b, a < n → b < n → jS w a = jS w b → a = b) ∧ (∀ a b, a < n → b < n → cS w a = cS w b → a = b) ∧
  (∀ k, k < 32 → (tb (stC w n).1 k = true ↔ ∃ m, m < n ∧ jS w m = (k : Int))) ∧ (∀ k, k < 32 → (tb (stC w n).2 k = true ↔ ∃ m, m < n ∧ cS w m = (k : Int)))
theorem ser_new {w : Nat → Int} (hf : WF w) {n : Nat} (hn : (n : Int) < w 0) (h : SerOK w n) : (0 ≤ jS w n ∧ jS w n < w 0) ∧ (0 ≤ cS w n ∧ cS w n < 5) ∧ (∀ m, m < n → jS w m ≠ jS w n) ∧ ∀ m, m < n → cS w m ≠ cS w n := by
  obtain ⟨h1, h2, h3, h4, h5⟩ := h
  have hj := hf.jud
  obtain ⟨k, hk, hkn⟩ := left_out (N := (w 0).toNat) (jS w) (n := n) (by omega)
  have hp : (!tb (stC w n).1 k) = true := by
    cases q : tb (stC w n).1 k
    · rfl
    · obtain ⟨m, hm, e⟩ := (h4 k (by omega)).mp q
      exact absurd e (hkn m hm)
  have a0 : 0 ≤ jS w n := amx_ex (v := fun j => w (80 + 4 * j)) hk hp
  have a1 := amx_p a0
  have e1 : jS w n = ((jS w n).toNat : Int) := by omega
  have a2 : tb (stC w n).1 (jS w n).toNat = false := by
    have := a1.2
    change (!tb (stC w n).1 (jS w n).toNat) = true at this
    simpa using this
  have a1' : (jS w n).toNat < (w 0).toNat := a1.1
  obtain ⟨k5, hk5, hkn5⟩ := left_out (N := 5) (cS w) (n := n) (by omega)
  have hp5 : (!tb (stC w n).2 k5) = true := by
    cases q : tb (stC w n).2 k5
    · rfl
    · obtain ⟨m, hm, e⟩ := (h5 k5 (by omega)).mp q
      exact absurd e (hkn5 m hm)
  have b0 : 0 ≤ cS w n := amx_ex (v := payW w (jS w n).toNat) hk5 hp5
  have b1 := amx_p b0
  have b1' : (cS w n).toNat < 5 := b1.1
  have b2 : tb (stC w n).2 (cS w n).toNat = false := by
    have := b1.2
    change (!tb (stC w n).2 (cS w n).toNat) = true at this
    simpa using this
  refine ⟨⟨a0, by omega⟩, ⟨b0, by omega⟩, fun m hm e => ?_, fun m hm e => ?_⟩
  · have := (h4 (jS w n).toNat (by omega)).mpr ⟨m, hm, by omega⟩
    rw [a2] at this; cases this
  · have := (h5 (cS w n).toNat (by omega)).mpr ⟨m, hm, by omega⟩
    rw [b2] at this; cases this
theorem ser_ok {w : Nat → Int} (hf : WF w) : ∀ n : Nat, (n : Int) ≤ w 0 → SerOK w n
  | 0, _ => by
    refine ⟨fun _ h => absurd h (Nat.not_lt_zero _), fun _ _ h => absurd h (Nat.not_lt_zero _), fun _ _ h => absurd h (Nat.not_lt_zero _), fun k _ => ?_, fun k _ => ?_⟩
    · rw [show (stC w 0).1 = 0 from rfl, tb_0]
      exact ⟨fun h => (nomatch h), fun ⟨_, h, _⟩ => absurd h (Nat.not_lt_zero _)⟩
    · rw [show (stC w 0).2 = 0 from rfl, tb_0]
      exact ⟨fun h => (nomatch h), fun ⟨_, h, _⟩ => absurd h (Nat.not_lt_zero _)⟩
  | n + 1, hn => by
    have hj := hf.jud
    have ih := ser_ok hf n (by omega)
    obtain ⟨a1, a2, a3, a4⟩ := ser_new hf (by omega) ih
    obtain ⟨h1, h2, h3, h4, h5⟩ := ih
    refine ⟨fun m hm => ?_, fun a b ha hb e => ?_, fun a b ha hb e => ?_, fun k hk => ?_, fun k hk => ?_⟩
    · by_cases e : m = n
      · rw [e]; exact ⟨a1, a2⟩
      · exact h1 m (by omega)
    · by_cases ea : a = n
      · by_cases eb : b = n
        · omega
        · rw [ea] at e; exact absurd e.symm (a3 b (by omega))
      · by_cases eb : b = n
        · rw [eb] at e; exact absurd e (a3 a (by omega))
        · exact h2 a b (by omega) (by omega) e
    · by_cases ea : a = n
      · by_cases eb : b = n
        · omega
        · rw [ea] at e; exact absurd e.symm (a4 b (by omega))
      · by_cases eb : b = n
        · rw [eb] at e; exact absurd e (a4 a (by omega))
        · exact h3 a b (by omega) (by omega) e
    · obtain ⟨x, hx⟩ : ∃ x : Nat, jS w n = (x : Int) := ⟨(jS w n).toNat, by omega⟩
      rw [stC_s, hx]
      show tb (orI (stC w n).1 (shlI 1 (x : Int))) k = true ↔ _
      rw [tb_or, tb_shl1 (by omega) hk, Bool.or_eq_true, h4 k hk]
      constructor
      · rintro (⟨m, hm, e⟩ | e)
        · exact ⟨m, by omega, e⟩
        · exact ⟨n, Nat.lt_succ_self n, by rw [hx, of_decide_eq_true e]⟩
      · rintro ⟨m, hm, e⟩
        by_cases e2 : m = n
        · rw [e2] at e; exact Or.inr (decide_eq_true (by omega))
        · exact Or.inl ⟨m, by omega, e⟩
    · obtain ⟨x, hx⟩ : ∃ x : Nat, cS w n = (x : Int) := ⟨(cS w n).toNat, by omega⟩
      rw [stC_s, hx]
      show tb (orI (stC w n).2 (shlI 1 (x : Int))) k = true ↔ _
      rw [tb_or, tb_shl1 (by omega) hk, Bool.or_eq_true, h5 k hk]
      constructor
      · rintro (⟨m, hm, e⟩ | e)
        · exact ⟨m, by omega, e⟩
        · exact ⟨n, Nat.lt_succ_self n, by rw [hx, of_decide_eq_true e]⟩
      · rintro ⟨m, hm, e⟩
        by_cases e2 : m = n
        · rw [e2] at e; exact Or.inr (decide_eq_true (by omega))
        · exact Or.inl ⟨m, by omega, e⟩
/-- hungrier, or of like hunger and the lesser number -/
def hgB (w : Nat → Int) (a b : Nat) : Bool := decide (w (80 + 4 * b) < w (80 + 4 * a)) || (decide (w (80 + 4 * a) = w (80 + 4 * b)) && decide (a < b))
theorem ser_at {w : Nat → Int} (hf : WF w) {n : Nat} (hn : (n : Int) < w 0) : (0 ≤ jS w n ∧ jS w n < w 0) ∧ (0 ≤ cS w n ∧ cS w n < 5) ∧ (∀ m, m < n → jS w m ≠ jS w n) ∧ ∀ m, m < n → cS w m ≠ cS w n := ser_new hf hn (ser_ok hf n (by omega))
theorem ser_hg {w : Nat → Int} (hf : WF w) {m n : Nat} (hmn : m < n) (hn : (n : Int) < w 0) : hgB w (jS w m).toNat (jS w n).toNat = true := by
  have hj := hf.jud
  obtain ⟨-, -, -, h4, -⟩ := ser_ok hf m (by omega)
  obtain ⟨a1, -, a3, -⟩ := ser_at hf hn
  obtain ⟨b1, -, -, -⟩ := ser_at hf (n := m) (by omega)
  have hp : (!tb (stC w m).1 (jS w n).toNat) = true := by
    cases q : tb (stC w m).1 (jS w n).toNat
    · rfl
    · obtain ⟨k, hk, e⟩ := (h4 _ (by omega)).mp q
      exact absurd (by omega) (a3 k (by omega))
  have := amx_opt (p := fun j => !tb (stC w m).1 j) (v := fun j => w (80 + 4 * j)) (n := (w 0).toNat) (k := (jS w n).toNat) (by omega) hp
  change w (80 + 4 * (jS w n).toNat) ≤ w (80 + 4 * (jS w m).toNat) ∧ (w (80 + 4 * (jS w n).toNat) = w (80 + 4 * (jS w m).toNat) → (jS w m).toNat ≤ (jS w n).toNat) at this
  have hne := a3 m hmn
  unfold hgB
  simp only [Bool.or_eq_true, Bool.and_eq_true, decide_eq_true_eq]
  omega
theorem hgB_no {w : Nat → Int} {a b : Nat} (h : hgB w a b = true) : hgB w b a = false := by
  unfold hgB at *
  simp only [Bool.or_eq_true, Bool.and_eq_true, decide_eq_true_eq] at h
  rw [Bool.or_eq_false_iff, Bool.and_eq_false_iff, decide_eq_false_iff_not, decide_eq_false_iff_not, decide_eq_false_iff_not]
  omega
theorem ser_all {w : Nat → Int} (hf : WF w) {j : Nat} (hj : (j : Int) < w 0) : ∃ n : Nat, (n : Int) < w 0 ∧ jS w n = (j : Int) := by
  have hjd := hf.jud
  obtain ⟨h1, h2, -, -, -⟩ := ser_ok hf (w 0).toNat (by omega)
  by_cases q : ∃ n : Nat, (n : Int) < w 0 ∧ jS w n = (j : Int)
  · exact q
  · exfalso
    have := cnt_inj (P := fun _ => true) (fun n => (jS w n).toNat) (N := (w 0).toNat) (w 0).toNat (fun k => !decide (k = j)) (fun n hn _ => by
      have := (h1 n hn).1
      refine ⟨by omega, ?_⟩
      simp only [Bool.not_eq_true', decide_eq_false_iff_not]
      exact fun e => q ⟨n, by omega, by omega⟩) (fun a b ha hb _ _ e => by
      have := (h1 a ha).1
      have := (h1 b hb).1
      exact h2 a b ha hb (by omega))
    rw [cntB_true] at this
    have h3 := cntB_lt_of (P := fun k => !decide (k = j)) (n := (w 0).toNat) (k := j) (by omega) (by simp)
    omega
/-- the class's circuit -/
theorem cirG_at {w : Nat → Int} (hf : WF w) {n : Nat} (hn : (n : Int) < w 0) {x : Nat} (hx : jS w n = (x : Int)) : ∀ f m : Nat, m ≤ n → n < m + f → cirG w x f (stC w m).1 (stC w m).2 = cS w n
  | 0, m, h1, h2 => by omega
  | f + 1, m, h1, h2 => by
    rw [cirG_s]
    by_cases e : m = n
    · subst e
      have h0 : hunA w (stC w m).1 = (x : Int) := hx
      rw [if_pos (Or.inl h0), if_neg (by omega)]
      rfl
    · obtain ⟨b1, b2, -, -⟩ := ser_at hf (n := m) (by omega)
      obtain ⟨-, -, a3, -⟩ := ser_at hf hn
      have hne := a3 m (by omega)
      rw [if_neg (by
        rintro (q | q | q)
        · exact hne (by rw [hx]; exact q)
        · exact absurd b1.1 (by show ¬ 0 ≤ hunA w (stC w m).1; omega)
        · exact absurd b2.1 (by show ¬ 0 ≤ deaA w (hunA w (stC w m).1).toNat (stC w m).2; omega))]
      have := cirG_at hf hn hx f (m + 1) (by omega) (by omega)
      rw [stC_s] at this
      exact this
/-- the state of those who ask -/
def DA (w : Nat → Int) (kp rf : Nat → Int) : Prop := (∀ c : Nat, c < 5 → kp c = -1 ∨ ∃ n : Nat, (n : Int) < w 0 ∧ kp c = jS w n ∧ deaA w (jS w n).toNat (rf (jS w n).toNat) = (c : Int)) ∧
  (∀ n : Nat, (n : Int) < w 0 → ∀ k, k < 32 → tb (rf (jS w n).toNat) k = true → ∃ m, m < n ∧ cS w m = (k : Int))
theorem DA.ask {w kp rf : Nat → Int} (hf : WF w) (h : DA w kp rf) {n : Nat} (hn : (n : Int) < w 0) : (0 ≤ deaA w (jS w n).toNat (rf (jS w n).toNat) ∧ deaA w (jS w n).toNat (rf (jS w n).toNat) < 5) ∧ tb (rf (jS w n).toNat) (deaA w (jS w n).toNat (rf (jS w n).toNat)).toNat = false ∧ ∃ m, m ≤ n ∧ deaA w (jS w n).toNat (rf (jS w n).toNat) = cS w m := by
  have hj := hf.jud
  obtain ⟨a1, a2, a3, a4⟩ := ser_at hf hn
  obtain ⟨-, -, -, -, h5⟩ := ser_ok hf n (by omega)
  have hp : (!tb (rf (jS w n).toNat) (cS w n).toNat) = true := by
    cases q : tb (rf (jS w n).toNat) (cS w n).toNat
    · rfl
    · obtain ⟨m, hm, e⟩ := h.2 n hn _ (by omega) q
      exact absurd (by omega) (a4 m hm)
  have b0 : 0 ≤ deaA w (jS w n).toNat (rf (jS w n).toNat) := amx_ex (v := payW w (jS w n).toNat) (n := 5) (by omega) hp
  have b1 := amx_p b0
  have o1 := amx_opt (p := fun k => !tb (rf (jS w n).toNat) k) (v := payW w (jS w n).toNat) (n := 5) (k := (cS w n).toNat) (by omega) hp
  change (deaA w (jS w n).toNat (rf (jS w n).toNat)).toNat < 5 ∧ (!tb (rf (jS w n).toNat) (deaA w (jS w n).toNat (rf (jS w n).toNat)).toNat) = true at b1
  change payW w (jS w n).toNat (cS w n).toNat ≤ payW w (jS w n).toNat (deaA w (jS w n).toNat (rf (jS w n).toNat)).toNat ∧ (payW w (jS w n).toNat (cS w n).toNat = payW w (jS w n).toNat (deaA w (jS w n).toNat (rf (jS w n).toNat)).toNat → (deaA w (jS w n).toNat (rf (jS w n).toNat)).toNat ≤ (cS w n).toNat) at o1
  generalize deaA w (jS w n).toNat (rf (jS w n).toNat) = c at b0 b1 o1 ⊢
  refine ⟨⟨b0, by omega⟩, by simpa using b1.2, ?_⟩
  by_cases q : ∃ m, m < n ∧ cS w m = (c.toNat : Int)
  · obtain ⟨m, hm, e⟩ := q
    exact ⟨m, by omega, by omega⟩
  · refine ⟨n, Nat.le_refl _, ?_⟩
    have hp2 : (!tb (stC w n).2 c.toNat) = true := by
      cases q2 : tb (stC w n).2 c.toNat
      · rfl
      · exact absurd ((h5 _ (by omega)).mp q2) q
    have o2 := amx_opt (p := fun k => !tb (stC w n).2 k) (v := payW w (jS w n).toNat) (n := 5) (k := c.toNat) (by omega) hp2
    change payW w (jS w n).toNat c.toNat ≤ payW w (jS w n).toNat (cS w n).toNat ∧ (payW w (jS w n).toNat c.toNat = payW w (jS w n).toNat (cS w n).toNat → (cS w n).toNat ≤ c.toNat) at o2
    omega
theorem in32_or (a b : Int) : in32 (orI a b) := in32_orI a b
theorem DA.uniq {w kp rf : Nat → Int} (h : DA w kp rf) {a b : Nat} (ha : a < 5) (hb : b < 5) (e : kp a = kp b) (hne : kp a ≠ -1) (hf : WF w) : a = b := by
  rcases h.1 a ha with q | ⟨n, h1, h2, h3⟩
  · exact absurd q hne
  · rcases h.1 b hb with q | ⟨m, h4, h5, h6⟩
    · exact absurd (e.trans q) hne
    · have e2 : jS w n = jS w m := by rw [← h2, ← h5]; exact e
      have : n = m := by
        by_cases q : n = m
        · exact q
        · rcases Nat.lt_or_gt_of_ne q with q2 | q2
          · exact absurd e2 ((ser_at hf h4).2.2.1 n q2)
          · exact absurd e2.symm ((ser_at hf h1).2.2.1 m q2)
      subst this
      omega
theorem DA.lose {w kp rf : Nat → Int} (hf : WF w) (h : DA w kp rf) {a b : Nat} (hab : a < b) (hb : (b : Int) < w 0) {c : Nat} (hc : deaA w (jS w a).toNat (rf (jS w a).toNat) = (c : Int)) : ∃ m, m < b ∧ cS w m = (c : Int) := by
  obtain ⟨-, -, m, hm, e⟩ := h.ask hf (n := a) (by omega)
  exact ⟨m, by omega, by rw [← e]; exact hc⟩
theorem DA.ref {w rf : Nat → Int} (hf : WF w) (h2 : ∀ n : Nat, (n : Int) < w 0 → ∀ k, k < 32 → tb (rf (jS w n).toNat) k = true → ∃ m, m < n ∧ cS w m = (k : Int)) {b c : Nat} (hb : (b : Int) < w 0) (hc : c < 5) (hm : ∃ m, m < b ∧ cS w m = (c : Int)) :
    ∀ n : Nat, (n : Int) < w 0 → ∀ k, k < 32 → tb (updW rf (jS w b).toNat (orI (rf (jS w b).toNat) (shlI 1 (c : Int))) (jS w n).toNat) k = true → ∃ m, m < n ∧ cS w m = (k : Int) := by
  intro n hn k hk ht
  by_cases e : (jS w n).toNat = (jS w b).toNat
  · have a1 := (ser_at hf hn).1
    have b1 := (ser_at hf hb).1
    have enb : n = b := by
      rcases Nat.lt_trichotomy n b with q | q | q
      · exact absurd (by omega) ((ser_at hf hb).2.2.1 n q)
      · exact q
      · exact absurd (by omega) ((ser_at hf hn).2.2.1 b q)
    subst enb
    rw [updW_s, tb_or, Bool.or_eq_true, tb_shl1 (by omega) hk] at ht
    rcases ht with q | q
    · exact h2 n hn k hk q
    · rw [of_decide_eq_true q]; exact hm
  · rw [updW_n e] at ht; exact h2 n hn k hk ht
/-- one who is not kept asks: nobody was there -/
theorem DA.free {w kp rf : Nat → Int} (h : DA w kp rf) {n c : Nat} (hn : (n : Int) < w 0) (hc : deaA w (jS w n).toNat (rf (jS w n).toNat) = (c : Int)) : DA w (updW kp c (jS w n)) rf := by
  refine ⟨fun c1 hc1 => ?_, h.2⟩
  by_cases e : c1 = c
  · subst e; rw [updW_s]; exact Or.inr ⟨n, hn, rfl, hc⟩
  · rw [updW_n e]; exact h.1 c1 hc1
/-- .. the other one goes -/
theorem DA.win {w kp rf : Nat → Int} (hf : WF w) (h : DA w kp rf) {n m c : Nat} (hn : (n : Int) < w 0) (hm : (m : Int) < w 0) (hc5 : c < 5) (hc : deaA w (jS w n).toNat (rf (jS w n).toNat) = (c : Int)) (hk : kp c = jS w m) (hnm : n < m) (hno : ∀ c1, c1 < 5 → kp c1 ≠ jS w n) :
    DA w (updW kp c (jS w n)) (updW rf (jS w m).toNat (orI (rf (jS w m).toNat) (shlI 1 (c : Int)))) := by
  have a1 := (ser_at hf hn).1
  have b1 := (ser_at hf hm).1
  have hne := (ser_at hf hm).2.2.1 n hnm
  refine ⟨fun c1 hc1 => ?_, DA.ref hf h.2 hm hc5 (h.lose hf hnm hm hc)⟩
  by_cases e : c1 = c
  · subst e
    rw [updW_s]
    exact Or.inr ⟨n, hn, rfl, by rw [updW_n (by omega)]; exact hc⟩
  · rw [updW_n e]
    rcases h.1 c1 hc1 with q | ⟨k, q1, q2, q3⟩
    · exact Or.inl q
    · have d1 := (ser_at hf q1).1
      refine Or.inr ⟨k, q1, q2, ?_⟩
      rw [updW_n (fun e2 => e (h.uniq hc1 hc5 (by rw [q2, hk]; omega) (by rw [q2]; omega) hf))]
      exact q3
/-- .. he goes himself -/
theorem DA.loseSelf {w kp rf : Nat → Int} (hf : WF w) (h : DA w kp rf) {n m c : Nat} (hn : (n : Int) < w 0) (hm : (m : Int) < w 0) (hc5 : c < 5) (hk : kp c = jS w m) (hmn : m < n) (hno : ∀ c1, c1 < 5 → kp c1 ≠ jS w n) :
    DA w kp (updW rf (jS w n).toNat (orI (rf (jS w n).toNat) (shlI 1 (c : Int)))) := by
  have a1 := (ser_at hf hn).1
  have b1 := (ser_at hf hm).1
  have hcm : deaA w (jS w m).toNat (rf (jS w m).toNat) = (c : Int) := by
    rcases h.1 c hc5 with q | ⟨k, q1, q2, q3⟩
    · omega
    · have e2 : jS w m = jS w k := by rw [← hk, q2]
      have : m = k := by
        rcases Nat.lt_trichotomy m k with q | q | q
        · exact absurd e2 ((ser_at hf q1).2.2.1 m q)
        · exact q
        · exact absurd e2.symm ((ser_at hf hm).2.2.1 k q)
      subst this
      exact q3
  refine ⟨fun c1 hc1 => ?_, DA.ref hf h.2 hn hc5 (h.lose hf hmn hn hcm)⟩
  rcases h.1 c1 hc1 with q | ⟨k, q1, q2, q3⟩
  · exact Or.inl q
  · have d1 := (ser_at hf q1).1
    refine Or.inr ⟨k, q1, q2, ?_⟩
    rw [updW_n (fun e2 => hno c1 hc1 (by rw [q2]; omega))]
    exact q3
theorem DA.fin {w kp rf : Nat → Int} (hf : WF w) (h : DA w kp rf) (hall : ∀ j : Nat, (j : Int) < w 0 → ∃ c, c < 5 ∧ kp c = (j : Int)) : ∀ n : Nat, (n : Int) < w 0 → kp (cS w n).toNat = jS w n := by
  intro n
  induction n using Nat.strongRecOn with
  | ind n ih =>
    intro hn
    obtain ⟨a1, a2, a3, a4⟩ := ser_at hf hn
    obtain ⟨c, hc, e⟩ := hall (jS w n).toNat (by omega)
    rcases h.1 c hc with q | ⟨k, q1, q2, q3⟩
    · omega
    · have e2 : jS w n = jS w k := by rw [← q2, e]; omega
      have : n = k := by
        rcases Nat.lt_trichotomy n k with q | q | q
        · exact absurd e2 ((ser_at hf q1).2.2.1 n q)
        · exact q
        · exact absurd e2.symm (a3 k q)
      subst this
      obtain ⟨-, -, m, hm, em⟩ := h.ask hf hn
      by_cases q : m = n
      · subst q
        rw [show (cS w m).toNat = c by omega]; exact q2
      · exfalso
        have := ih m (by omega) (by omega)
        rw [show (cS w m).toNat = c by omega, q2] at this
        exact a3 m (by omega) this.symm
/-- how far the asking has come -/
def sumN (f : Nat → Nat) : Nat → Nat := foldN (fun j a => a + f j) 0
theorem sumN_s (f : Nat → Nat) (n : Nat) : sumN f (n + 1) = sumN f n + f n := rfl
theorem sumN_cong {f g : Nat → Nat} : ∀ {n : Nat}, (∀ k, k < n → f k = g k) → sumN f n = sumN g n
  | 0, _ => rfl
  | n + 1, h => by rw [sumN_s, sumN_s, sumN_cong (fun k hk => h k (by omega)), h n (Nat.lt_succ_self n)]
theorem sumN_upd {f g : Nat → Nat} {i : Nat} : ∀ {n : Nat}, i < n → (∀ k, k ≠ i → g k = f k) → g i = f i + 1 → sumN g n = sumN f n + 1
  | 0, h, _, _ => absurd h (Nat.not_lt_zero _)
  | n + 1, h, h1, h2 => by
    rw [sumN_s, sumN_s]
    by_cases e : i = n
    · subst e
      rw [sumN_cong (fun k hk => h1 k (by omega)), h2]; omega
    · rw [sumN_upd (i := i) (by omega) h1 h2, h1 n (by omega)]; omega
theorem sumN_le {f : Nat → Nat} {m : Nat} : ∀ {n : Nat}, (∀ k, k < n → f k ≤ m) → sumN f n ≤ m * n
  | 0, _ => Nat.zero_le _
  | n + 1, h => by
    have := sumN_le (n := n) (fun k hk => h k (by omega))
    have := h n (Nat.lt_succ_self n)
    rw [sumN_s, Nat.mul_succ]
    omega
def mu (kp rf : Nat → Int) : Nat := sumN (fun j => cntB (tb (rf j)) 5) 5 + cntB (fun c => !decide (kp c = -1)) 5
theorem mu_le (kp rf : Nat → Int) : mu kp rf ≤ 30 := by
  have h1 := sumN_le (f := fun j => cntB (tb (rf j)) 5) (m := 5) (n := 5) (fun k _ => cntB_le _ _)
  have h2 := cntB_le (fun c => !decide (kp c = -1)) 5
  unfold mu
  omega
theorem mu_free {kp rf : Nat → Int} {c : Nat} {v : Int} (hc : c < 5) (hk : kp c = -1) (hv : v ≠ -1) : mu (updW kp c v) rf = mu kp rf + 1 := by
  have : cntB (fun x => !decide (updW kp c v x = -1)) 5 = cntB (fun x => !decide (kp x = -1)) 5 + 1 := by
    rw [← cntB_add (P := fun x => !decide (kp x = -1)) hc (by simp [hk])]
    refine cntB_cong (fun x _ => ?_)
    by_cases e : x = c
    · subst e; simp [updW_s, hv]
    · simp [updW_n e, e]
  unfold mu
  omega
theorem mu_ref {kp kp' rf : Nat → Int} {i c : Nat} (hi : i < 5) (hc : c < 5) (hr : tb (rf i) c = false) (hk : ∀ x, x < 5 → (kp' x = -1 ↔ kp x = -1)) : mu kp' (updW rf i (orI (rf i) (shlI 1 (c : Int)))) = mu kp rf + 1 := by
  have h1 : cntB (fun x => !decide (kp' x = -1)) 5 = cntB (fun x => !decide (kp x = -1)) 5 := cntB_cong (fun x hx => by rw [decide_eq_decide.mpr (hk x hx)])
  have h2 : sumN (fun j => cntB (tb (updW rf i (orI (rf i) (shlI 1 (c : Int))) j)) 5) 5 = sumN (fun j => cntB (tb (rf j)) 5) 5 + 1 := by
    refine sumN_upd (i := i) hi (fun k hk => by rw [updW_n hk]) ?_
    rw [updW_s, ← cntB_add (P := tb (rf i)) hc hr]
    refine cntB_cong (fun x hx => ?_)
    rw [tb_or, tb_shl1 (by omega) (by omega)]
  unfold mu
  omega
