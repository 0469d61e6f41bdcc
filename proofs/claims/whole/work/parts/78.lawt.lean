/-! THE LAW'S TEXT: steps in u below 400, its lines from 400 on (three a line); c steps, n lines -/
abbrev LsT : Type := (Nat → Int) × Nat × Nat
def emU (u : Nat → Int) (c : Nat) (p : Bool) (a : Int) : Nat → Int := cond p (updW u c a) u
def emC (c : Nat) (p : Bool) : Nat := cond p (c + 1) c
def cmqL (t : Nat → Int) : Nat → Int → Bool → (Nat → Int) → Nat → Nat → Nat ⊕ LsT
  | 0, _, _, _, _, k => .inl k
  | m + 1, sg, pl, u, c, k => if 0 ≤ t k ∧ t k ≤ 1006 then
      (if t (k + 1) = 2043 then cmqL t m sg true (emU (updW u c (t k)) (c + 1) pl 2043) (emC (c + 1) pl) (k + 2)
      else if 0 ≤ sg then .inr (updW (emU (updW u c (t k)) (c + 1) pl 2043) (emC (c + 1) pl) sg, emC (c + 1) pl + 1, k + 1)
      else if t (k + 1) = 2060 ∨ t (k + 1) = 2062 then cmqL t m (t (k + 1)) false (emU (updW u c (t k)) (c + 1) pl 2043) (emC (c + 1) pl) (k + 2)
      else .inl (k + 1))
    else .inl k
def cndL (t : Nat → Int) (A : (Nat → Int) → Nat → Nat → Nat ⊕ LsT) : Nat → Bool → Bool → (Nat → Int) → Nat → Nat → Nat ⊕ LsT
  | 0, _, _, _, _, k => .inl k
  | m + 1, o, a, u, c, k => match A u c k with
    | .inl f => .inl f
    | .inr (u1, c1, k1) => if t k1 = 1022 then cndL t A m o true (emU u1 c1 a 1022) (emC c1 a) (k1 + 1)
      else if t k1 = 1021 then cndL t A m true false (emU (emU u1 c1 a 1022) (emC c1 a) o 1021) (emC (emC c1 a) o) (k1 + 1)
      else .inr (emU (emU u1 c1 a 1022) (emC c1 a) o 1021, emC (emC c1 a) o, k1)
def atm0 (t u : Nat → Int) (c k : Nat) : Nat ⊕ LsT := if 1007 ≤ t k ∧ t k ≤ 1009 then .inr (updW u c (t k), c + 1, k + 1) else cmqL t 400 (-1) false u c k
def atmL (t : Nat → Int) : Nat → (Nat → Int) → Nat → Nat → Nat ⊕ LsT
  | 0, u, c, k => if t k = 1023 ∨ t k = 2040 then .inl k else atm0 t u c k
  | r + 1, u, c, k => if t k = 2040 then (match cndL t (atmL t r) 400 false false u c (k + 1) with
      | .inl f => .inl f
      | .inr (u1, c1, k1) => if t k1 = 2041 then .inr (u1, c1, k1 + 1) else .inl k1)
    else if t k = 1023 then (match atmL t r u c (k + 1) with
      | .inl f => .inl f
      | .inr (u1, c1, k1) => .inr (updW u1 c1 1023, c1 + 1, k1))
    else atm0 t u c k
def lnU (u : Nat → Int) (n : Nat) (v a : Int) (c : Nat) : Nat → Int := updW (updW (updW u (400 + 3 * n) v) (401 + 3 * n) a) (402 + 3 * n) (c : Int)
def lawLn (t u : Nat → Int) (n c k : Nat) : Nat ⊕ LsT := if 1017 ≤ t k ∧ t k ≤ 1019 then
    (if 0 ≤ t (k + 1) ∧ t (k + 1) ≤ 99 then
      (if t (k + 2) = 1020 then (match cndL t (atmL t 6) 400 false false u c (k + 3) with
        | .inl f => .inl f
        | .inr (u1, c1, k1) => .inr (lnU u1 n (t k) (t (k + 1)) c1, c1, k1))
      else .inr (lnU u n (t k) (t (k + 1)) c, c, k + 2))
    else .inl (k + 1))
  else .inl k
def lawAll (t : Nat → Int) : Nat → (Nat → Int) → Nat → Nat → Nat → Nat ⊕ LsT
  | 0, _, _, _, k => .inl k
  | m + 1, u, n, c, k => match lawLn t u n c k with
    | .inl f => .inl f
    | .inr (u1, c1, k1) => if t k1 = -1 then .inr (u1, n + 1, c1) else if t k1 = 2059 then lawAll t m u1 (n + 1) c1 (k1 + 1) else .inl k1
def lawTx (t : Nat → Int) : Nat ⊕ LsT := if t 0 = -1 then .inr (fun _ => 0, 0, 0) else lawAll t 12 (fun _ => 0) 0 0 0
section
variable {t u u1 : Nat → Int} {m n c k c1 k1 f r : Nat} {sg : Int} {pl o a : Bool} {A : (Nat → Int) → Nat → Nat → Nat ⊕ LsT}
theorem cmqL_s : cmqL t (m + 1) sg pl u c k = if 0 ≤ t k ∧ t k ≤ 1006 then
      (if t (k + 1) = 2043 then cmqL t m sg true (emU (updW u c (t k)) (c + 1) pl 2043) (emC (c + 1) pl) (k + 2)
      else if 0 ≤ sg then .inr (updW (emU (updW u c (t k)) (c + 1) pl 2043) (emC (c + 1) pl) sg, emC (c + 1) pl + 1, k + 1)
      else if t (k + 1) = 2060 ∨ t (k + 1) = 2062 then cmqL t m (t (k + 1)) false (emU (updW u c (t k)) (c + 1) pl 2043) (emC (c + 1) pl) (k + 2)
      else .inl (k + 1))
    else .inl k := rfl
theorem cmqL_n (h : ¬ (0 ≤ t k ∧ t k ≤ 1006)) : cmqL t (m + 1) sg pl u c k = .inl k := cmqL_s.trans (if_neg h)
theorem cmqL_p (h : 0 ≤ t k ∧ t k ≤ 1006) (h1 : t (k + 1) = 2043) : cmqL t (m + 1) sg pl u c k = cmqL t m sg true (emU (updW u c (t k)) (c + 1) pl 2043) (emC (c + 1) pl) (k + 2) := cmqL_s.trans ((if_pos h).trans (if_pos h1))
theorem cmqL_e (h : 0 ≤ t k ∧ t k ≤ 1006) (h1 : ¬ t (k + 1) = 2043) (h2 : 0 ≤ sg) : cmqL t (m + 1) sg pl u c k = .inr (updW (emU (updW u c (t k)) (c + 1) pl 2043) (emC (c + 1) pl) sg, emC (c + 1) pl + 1, k + 1) := cmqL_s.trans ((if_pos h).trans ((if_neg h1).trans (if_pos h2)))
theorem cmqL_g (h : 0 ≤ t k ∧ t k ≤ 1006) (h1 : ¬ t (k + 1) = 2043) (h2 : ¬ 0 ≤ sg) (h3 : t (k + 1) = 2060 ∨ t (k + 1) = 2062) : cmqL t (m + 1) sg pl u c k = cmqL t m (t (k + 1)) false (emU (updW u c (t k)) (c + 1) pl 2043) (emC (c + 1) pl) (k + 2) := cmqL_s.trans ((if_pos h).trans ((if_neg h1).trans ((if_neg h2).trans (if_pos h3))))
theorem cmqL_w (h : 0 ≤ t k ∧ t k ≤ 1006) (h1 : ¬ t (k + 1) = 2043) (h2 : ¬ 0 ≤ sg) (h3 : ¬ (t (k + 1) = 2060 ∨ t (k + 1) = 2062)) : cmqL t (m + 1) sg pl u c k = .inl (k + 1) := cmqL_s.trans ((if_pos h).trans ((if_neg h1).trans ((if_neg h2).trans (if_neg h3))))
theorem cndL_s : cndL t A (m + 1) o a u c k = (match A u c k with
    | .inl f => .inl f
    | .inr (u1, c1, k1) => if t k1 = 1022 then cndL t A m o true (emU u1 c1 a 1022) (emC c1 a) (k1 + 1)
      else if t k1 = 1021 then cndL t A m true false (emU (emU u1 c1 a 1022) (emC c1 a) o 1021) (emC (emC c1 a) o) (k1 + 1)
      else .inr (emU (emU u1 c1 a 1022) (emC c1 a) o 1021, emC (emC c1 a) o, k1)) := rfl
theorem cndL_f (h : A u c k = .inl f) : cndL t A (m + 1) o a u c k = .inl f := by rw [cndL_s, h]
theorem cndL_a (h : A u c k = .inr (u1, c1, k1)) (h1 : t k1 = 1022) : cndL t A (m + 1) o a u c k = cndL t A m o true (emU u1 c1 a 1022) (emC c1 a) (k1 + 1) := by
  rw [cndL_s, h]
  exact if_pos h1
theorem cndL_o (h : A u c k = .inr (u1, c1, k1)) (h1 : ¬ t k1 = 1022) (h2 : t k1 = 1021) : cndL t A (m + 1) o a u c k = cndL t A m true false (emU (emU u1 c1 a 1022) (emC c1 a) o 1021) (emC (emC c1 a) o) (k1 + 1) := by
  rw [cndL_s, h]
  exact (if_neg h1).trans (if_pos h2)
theorem cndL_e (h : A u c k = .inr (u1, c1, k1)) (h1 : ¬ t k1 = 1022) (h2 : ¬ t k1 = 1021) : cndL t A (m + 1) o a u c k = .inr (emU (emU u1 c1 a 1022) (emC c1 a) o 1021, emC (emC c1 a) o, k1) := by
  rw [cndL_s, h]
  exact (if_neg h1).trans (if_neg h2)
theorem atm0_t (h : 1007 ≤ t k ∧ t k ≤ 1009) : atm0 t u c k = .inr (updW u c (t k), c + 1, k + 1) := if_pos h
theorem atm0_c (h : ¬ (1007 ≤ t k ∧ t k ≤ 1009)) : atm0 t u c k = cmqL t 400 (-1) false u c k := if_neg h
theorem atmL_z (h : t k = 1023 ∨ t k = 2040) : atmL t 0 u c k = .inl k := if_pos h
theorem atmL_0 (h1 : ¬ t k = 1023) (h2 : ¬ t k = 2040) : ∀ r, atmL t r u c k = atm0 t u c k
  | 0 => if_neg (fun q => q.elim h1 h2)
  | r + 1 => (show atmL t (r + 1) u c k = if t k = 2040 then _ else if t k = 1023 then _ else atm0 t u c k from rfl).trans ((if_neg h2).trans (if_neg h1))
theorem atmL_s : atmL t (r + 1) u c k = (if t k = 2040 then (match cndL t (atmL t r) 400 false false u c (k + 1) with
      | .inl f => .inl f
      | .inr (u1, c1, k1) => if t k1 = 2041 then .inr (u1, c1, k1 + 1) else .inl k1)
    else if t k = 1023 then (match atmL t r u c (k + 1) with
      | .inl f => .inl f
      | .inr (u1, c1, k1) => .inr (updW u1 c1 1023, c1 + 1, k1))
    else atm0 t u c k) := rfl
theorem atmL_of (h : t k = 2040) (e : cndL t (atmL t r) 400 false false u c (k + 1) = .inl f) : atmL t (r + 1) u c k = .inl f := by rw [atmL_s, if_pos h, e]
theorem atmL_oy (h : t k = 2040) (e : cndL t (atmL t r) 400 false false u c (k + 1) = .inr (u1, c1, k1)) (h1 : t k1 = 2041) : atmL t (r + 1) u c k = .inr (u1, c1, k1 + 1) := by
  rw [atmL_s, if_pos h, e]
  exact if_pos h1
theorem atmL_on (h : t k = 2040) (e : cndL t (atmL t r) 400 false false u c (k + 1) = .inr (u1, c1, k1)) (h1 : ¬ t k1 = 2041) : atmL t (r + 1) u c k = .inl k1 := by
  rw [atmL_s, if_pos h, e]
  exact if_neg h1
theorem atmL_nf (h : t k = 1023) (e : atmL t r u c (k + 1) = .inl f) : atmL t (r + 1) u c k = .inl f := by rw [atmL_s, if_neg (by omega), if_pos h, e]
theorem atmL_ny (h : t k = 1023) (e : atmL t r u c (k + 1) = .inr (u1, c1, k1)) : atmL t (r + 1) u c k = .inr (updW u1 c1 1023, c1 + 1, k1) := by rw [atmL_s, if_neg (by omega), if_pos h, e]
/-- how far reading has come, and how many steps it gave -/
theorem cmqL_le : ∀ (m : Nat) (sg : Int) (pl : Bool) (u : Nat → Int) (c k : Nat), cmqL t m sg pl u c k = .inr (u1, c1, k1) → k < k1 ∧ c < c1 ∧ (pl = true → 0 ≤ sg → c1 + k ≤ c + k1 + 2) ∧ (pl = true → ¬ 0 ≤ sg → c1 + k ≤ c + k1 + 1) ∧ (pl = false → 0 ≤ sg → c1 + k ≤ c + k1 + 1) ∧ (pl = false → ¬ 0 ≤ sg → c1 + k ≤ c + k1) := by
  intro m
  induction m with
  | zero => intro sg pl u c k h; exact nomatch h
  | succ m ih =>
    intro sg pl u c k h
    by_cases h0 : 0 ≤ t k ∧ t k ≤ 1006
    · have e5 : emC (c + 1) pl = c + 1 + (emC 0 pl) := by cases pl <;> rfl
      have e6 : pl = true → emC 0 pl = 1 := fun e => by rw [e]; rfl
      have e7 : pl = false → emC 0 pl = 0 := fun e => by rw [e]; rfl
      by_cases h1 : t (k + 1) = 2043
      · rw [cmqL_p h0 h1] at h
        obtain ⟨a1, a2, a3, a4, -, -⟩ := ih _ _ _ _ _ h
        have a5 := a3 rfl
        have a6 := a4 rfl
        cases pl with
        | true =>
          have := e6 rfl
          refine ⟨by omega, by omega, fun _ q => by have := a5 q; omega, fun _ q => by have := a6 q; omega, fun q => (nomatch q), fun q => (nomatch q)⟩
        | false =>
          have := e7 rfl
          refine ⟨by omega, by omega, fun q => (nomatch q), fun q => (nomatch q), fun _ q => by have := a5 q; omega, fun _ q => by have := a6 q; omega⟩
      · by_cases h2 : 0 ≤ sg
        · rw [cmqL_e h0 h1 h2] at h
          cases h
          cases pl with
          | true =>
            have := e6 rfl
            refine ⟨by omega, by omega, fun _ q => by omega, fun _ q => absurd h2 q, fun q => (nomatch q), fun q => (nomatch q)⟩
          | false =>
            have := e7 rfl
            refine ⟨by omega, by omega, fun q => (nomatch q), fun q => (nomatch q), fun _ q => by omega, fun _ q => absurd h2 q⟩
        · by_cases h3 : t (k + 1) = 2060 ∨ t (k + 1) = 2062
          · rw [cmqL_g h0 h1 h2 h3] at h
            obtain ⟨a1, a2, -, -, a5, -⟩ := ih _ _ _ _ _ h
            have a6 := a5 rfl (by omega)
            cases pl with
            | true =>
              have := e6 rfl
              refine ⟨by omega, by omega, fun _ q => absurd q h2, fun _ q => by omega, fun q => (nomatch q), fun q => (nomatch q)⟩
            | false =>
              have := e7 rfl
              refine ⟨by omega, by omega, fun q => (nomatch q), fun q => (nomatch q), fun _ q => absurd q h2, fun _ q => by omega⟩
          · rw [cmqL_w h0 h1 h2 h3] at h
            exact nomatch h
    · rw [cmqL_n h0] at h
      exact nomatch h
abbrev leA (A : (Nat → Int) → Nat → Nat → Nat ⊕ LsT) : Prop := ∀ (u u1 : Nat → Int) (c k c1 k1 : Nat), A u c k = .inr (u1, c1, k1) → k < k1 ∧ c < c1 ∧ c1 + k ≤ c + k1
theorem emC_e (c : Nat) (p : Bool) : emC c p = c + emC 0 p := by cases p <;> rfl
theorem emC_1 (p : Bool) : emC 0 p ≤ 1 := by cases p <;> decide
theorem cndL_le (hA : leA A) : ∀ (m : Nat) (o a : Bool) (u : Nat → Int) (c k : Nat), cndL t A m o a u c k = .inr (u1, c1, k1) → k < k1 ∧ c < c1 ∧ c1 + k ≤ c + k1 + (emC 0 o + emC 0 a) := by
  intro m
  induction m with
  | zero => intro o a u c k h; exact nomatch h
  | succ m ih =>
    intro o a u c k h
    cases hq : A u c k with
    | inl f => rw [cndL_f hq] at h; exact nomatch h
    | inr R =>
      obtain ⟨u2, c2, k2⟩ := R
      obtain ⟨b1, b2, b3⟩ := hA _ _ _ _ _ _ hq
      have e1 := emC_e c2 a
      have e2 := emC_e (emC c2 a) o
      by_cases h1 : t k2 = 1022
      · rw [cndL_a hq h1] at h
        obtain ⟨a1, a2, a3⟩ := ih _ _ _ _ _ h
        have : emC 0 true = 1 := rfl
        omega
      · by_cases h2 : t k2 = 1021
        · rw [cndL_o hq h1 h2] at h
          obtain ⟨a1, a2, a3⟩ := ih _ _ _ _ _ h
          have : emC 0 true = 1 := rfl
          have : emC 0 false = 0 := rfl
          omega
        · rw [cndL_e hq h1 h2] at h
          cases h
          omega
theorem atm0_le : leA (atm0 t) := by
  intro u u1 c k c1 k1 h
  by_cases h1 : 1007 ≤ t k ∧ t k ≤ 1009
  · rw [atm0_t h1] at h
    cases h
    omega
  · rw [atm0_c h1] at h
    have := cmqL_le _ _ _ _ _ _ h
    exact ⟨this.1, this.2.1, this.2.2.2.2.2 rfl (by decide)⟩
theorem atmL_le : ∀ r, leA (atmL t r) := by
  intro r
  induction r with
  | zero =>
    intro u u1 c k c1 k1 h
    by_cases h1 : t k = 1023 ∨ t k = 2040
    · rw [atmL_z h1] at h; exact nomatch h
    · rw [atmL_0 (by omega) (by omega)] at h
      exact atm0_le _ _ _ _ _ _ h
  | succ r ih =>
    intro u u1 c k c1 k1 h
    by_cases h1 : t k = 2040
    · cases hq : cndL t (atmL t r) 400 false false u c (k + 1) with
      | inl f => rw [atmL_of h1 hq] at h; exact nomatch h
      | inr R =>
        obtain ⟨u2, c2, k2⟩ := R
        have := cndL_le ih _ _ _ _ _ _ hq
        have : emC 0 false = 0 := rfl
        by_cases h2 : t k2 = 2041
        · rw [atmL_oy h1 hq h2] at h; cases h; omega
        · rw [atmL_on h1 hq h2] at h; exact nomatch h
    · by_cases h2 : t k = 1023
      · cases hq : atmL t r u c (k + 1) with
        | inl f => rw [atmL_nf h2 hq] at h; exact nomatch h
        | inr R =>
          obtain ⟨u2, c2, k2⟩ := R
          have := ih _ _ _ _ _ _ hq
          rw [atmL_ny h2 hq] at h
          cases h
          omega
      · rw [atmL_0 h2 h1] at h
        exact atm0_le _ _ _ _ _ _ h
theorem lawLn_n (h : ¬ (1017 ≤ t k ∧ t k ≤ 1019)) : lawLn t u n c k = .inl k := if_neg h
theorem lawLn_a (h : 1017 ≤ t k ∧ t k ≤ 1019) (h1 : ¬ (0 ≤ t (k + 1) ∧ t (k + 1) ≤ 99)) : lawLn t u n c k = .inl (k + 1) := (if_pos h).trans (if_neg h1)
theorem lawLn_y (h : 1017 ≤ t k ∧ t k ≤ 1019) (h1 : 0 ≤ t (k + 1) ∧ t (k + 1) ≤ 99) (h2 : ¬ t (k + 2) = 1020) : lawLn t u n c k = .inr (lnU u n (t k) (t (k + 1)) c, c, k + 2) := (if_pos h).trans ((if_pos h1).trans (if_neg h2))
theorem lawLn_s (h : 1017 ≤ t k ∧ t k ≤ 1019) (h1 : 0 ≤ t (k + 1) ∧ t (k + 1) ≤ 99) (h2 : t (k + 2) = 1020) : lawLn t u n c k = (match cndL t (atmL t 6) 400 false false u c (k + 3) with
        | .inl f => .inl f
        | .inr (u1, c1, k1) => .inr (lnU u1 n (t k) (t (k + 1)) c1, c1, k1)) := (if_pos h).trans ((if_pos h1).trans (if_pos h2))
theorem lawLn_if (h : 1017 ≤ t k ∧ t k ≤ 1019) (h1 : 0 ≤ t (k + 1) ∧ t (k + 1) ≤ 99) (h2 : t (k + 2) = 1020) (e : cndL t (atmL t 6) 400 false false u c (k + 3) = .inl f) : lawLn t u n c k = .inl f := by rw [lawLn_s h h1 h2, e]
theorem lawLn_iy (h : 1017 ≤ t k ∧ t k ≤ 1019) (h1 : 0 ≤ t (k + 1) ∧ t (k + 1) ≤ 99) (h2 : t (k + 2) = 1020) (e : cndL t (atmL t 6) 400 false false u c (k + 3) = .inr (u1, c1, k1)) : lawLn t u n c k = .inr (lnU u1 n (t k) (t (k + 1)) c1, c1, k1) := by rw [lawLn_s h h1 h2, e]
theorem lawLn_le (h : lawLn t u n c k = .inr (u1, c1, k1)) : k < k1 ∧ c ≤ c1 ∧ c1 + k ≤ c + k1 := by
  by_cases h0 : 1017 ≤ t k ∧ t k ≤ 1019
  · by_cases h1 : 0 ≤ t (k + 1) ∧ t (k + 1) ≤ 99
    · by_cases h2 : t (k + 2) = 1020
      · cases hq : cndL t (atmL t 6) 400 false false u c (k + 3) with
        | inl f => rw [lawLn_if h0 h1 h2 hq] at h; exact nomatch h
        | inr R =>
          obtain ⟨u2, c2, k2⟩ := R
          have := cndL_le (atmL_le 6) _ _ _ _ _ _ hq
          have : emC 0 false = 0 := rfl
          rw [lawLn_iy h0 h1 h2 hq] at h
          cases h
          omega
      · rw [lawLn_y h0 h1 h2] at h
        cases h
        omega
    · rw [lawLn_a h0 h1] at h; exact nomatch h
  · rw [lawLn_n h0] at h; exact nomatch h
theorem lawAll_s : lawAll t (m + 1) u n c k = (match lawLn t u n c k with
    | .inl f => .inl f
    | .inr (u1, c1, k1) => if t k1 = -1 then .inr (u1, n + 1, c1) else if t k1 = 2059 then lawAll t m u1 (n + 1) c1 (k1 + 1) else .inl k1) := rfl
theorem lawAll_f (h : lawLn t u n c k = .inl f) : lawAll t (m + 1) u n c k = .inl f := by rw [lawAll_s, h]
theorem lawAll_e (h : lawLn t u n c k = .inr (u1, c1, k1)) (h1 : t k1 = -1) : lawAll t (m + 1) u n c k = .inr (u1, n + 1, c1) := by
  rw [lawAll_s, h]
  exact if_pos h1
theorem lawAll_m (h : lawLn t u n c k = .inr (u1, c1, k1)) (h1 : ¬ t k1 = -1) (h2 : t k1 = 2059) : lawAll t (m + 1) u n c k = lawAll t m u1 (n + 1) c1 (k1 + 1) := by
  rw [lawAll_s, h]
  exact (if_neg h1).trans (if_pos h2)
theorem lawAll_n (h : lawLn t u n c k = .inr (u1, c1, k1)) (h1 : ¬ t k1 = -1) (h2 : ¬ t k1 = 2059) : lawAll t (m + 1) u n c k = .inl k1 := by
  rw [lawAll_s, h]
  exact (if_neg h1).trans (if_neg h2)
end
theorem rdN_inv {t : Nat → Int} {k k' : Nat} {lo hi v : Int} (r : ∀ (α : Type) (K : Int → Nat → Nat ⊕ α), rdN t k lo hi K = K v k') : (lo ≤ t k ∧ t k ≤ hi) ∧ v = t k - lo ∧ k' = k + 1 := by
  have h := r (Int × Nat) (fun v k => .inr (v, k))
  by_cases q : lo ≤ t k ∧ t k ≤ hi
  · rw [rdN_y q.1 q.2] at h
    cases h
    exact ⟨q, rfl, rfl⟩
  · rw [rdN_n q] at h
    exact nomatch h
theorem rdN_inf {t : Nat → Int} {k f : Nat} {lo hi : Int} (r : ∀ (α : Type) (K : Int → Nat → Nat ⊕ α), rdN t k lo hi K = .inl f) : ¬ (lo ≤ t k ∧ t k ≤ hi) ∧ f = k := by
  have h := r (Int × Nat) (fun v k => .inr (v, k))
  by_cases q : lo ≤ t k ∧ t k ≤ hi
  · rw [rdN_y q.1 q.2] at h
    exact nomatch h
  · rw [rdN_n q] at h
    cases h
    exact ⟨q, rfl⟩
/-- the rules at r are n lines and c steps of u -/
def LwD (h : Hc) (r : Nat) (u : Nat → Int) (n c : Nat) : Prop := h r 0 = (n : Int) ∧ h r 1 = (c : Int) ∧ (∀ i, i < c → h (r + 4) i = u i) ∧ ∀ i, i < n → h (r + 1) i = u (400 + 3 * i) ∧ h (r + 2) i = u (401 + 3 * i) ∧ h (r + 3) i = u (402 + 3 * i)
theorem LwD.off {S : Nat → Prop} {h h' : Hc} {r : Nat} {u : Nat → Int} {n c : Nat} (q : LwD h r u n c) (o : Off S h h') (hs : ∀ i, i < 5 → ¬ S (r + i)) : LwD h' r u n c := by
  have e : ∀ i, i < 5 → h' (r + i) = h (r + i) := fun i hi => o _ (hs i hi)
  unfold LwD
  rw [show h' r = h r from e 0 (by omega), e 1 (by omega), e 2 (by omega), e 3 (by omega), e 4 (by omega)]
  exact q
theorem LwD.mv {X : Nat} {h h' : Hc} {u : Nat → Int} {n c : Nat} (q : LwD h (X + 59) u n c) (m : Mv X h h') : LwD h' (X + 59) u n c := q.off m.off (fun i hi => by omega)
theorem LwD.em {h : Hc} {r : Nat} {u : Nat → Int} {n c : Nat} (q : LwD h r u n c) (hc : c < 400) (a : Int) : LwD (updH (updH h (r + 4) c a) r 1 (((c + 1 : Nat)) : Int)) r (updW u c a) n (c + 1) := by
  obtain ⟨q0, q1, q2, q3⟩ := q
  refine ⟨by rw [updH_i (by decide), updH_a (by omega)]; exact q0, updH_s _ _ _ _, fun i hi => ?_, fun i hi => ?_⟩
  · rw [updH_a (by omega)]
    by_cases e : i = c
    · rw [e, updH_s, updW_s]
    · rw [updH_i e, updW_n e]
      exact q2 i (by omega)
  · rw [updH_a (by omega), updH_a (by omega), updH_a (by omega), updH_a (by omega), updH_a (by omega), updH_a (by omega), updW_n (by omega), updW_n (by omega), updW_n (by omega)]
    exact q3 i hi
theorem LwD.ln {h : Hc} {r : Nat} {u : Nat → Int} {n c : Nat} (q : LwD h r u n c) (hc : c ≤ 400) (v a : Int) : LwD (updH (updH (updH (updH h (r + 1) n v) (r + 2) n a) (r + 3) n (c : Int)) r 0 (((n + 1 : Nat)) : Int)) r (lnU u n v a c) (n + 1) c := by
  obtain ⟨q0, q1, q2, q3⟩ := q
  refine ⟨updH_s _ _ _ _, by rw [updH_i (by decide), updH_a (by omega), updH_a (by omega), updH_a (by omega)]; exact q1, fun i hi => ?_, fun i hi => ?_⟩
  · unfold lnU
    rw [updH_a (by omega), updH_a (by omega), updH_a (by omega), updH_a (by omega), updW_n (by omega), updW_n (by omega), updW_n (by omega)]
    exact q2 i hi
  · unfold lnU
    rw [updH_a (show r + 1 ≠ r by omega), updH_a (show r + 1 ≠ r + 3 by omega), updH_a (show r + 1 ≠ r + 2 by omega), updH_a (show r + 2 ≠ r by omega), updH_a (show r + 2 ≠ r + 3 by omega), updH_a (show r + 3 ≠ r by omega)]
    by_cases e : i = n
    · subst e
      refine ⟨?_, ?_, ?_⟩
      · rw [updH_s, updW_n (by omega), updW_n (by omega), updW_s]
      · rw [updH_s, updW_n (by omega), updW_s]
      · rw [updH_s, updW_s]
    · have := q3 i (by omega)
      refine ⟨?_, ?_, ?_⟩
      · rw [updH_i e, updW_n (by omega), updW_n (by omega), updW_n (by omega)]; exact this.1
      · rw [updH_i e, updH_a (by omega), updW_n (by omega), updW_n (by omega), updW_n (by omega)]; exact this.2.1
      · rw [updH_i e, updH_a (by omega), updH_a (by omega), updW_n (by omega), updW_n (by omega), updW_n (by omega)]; exact this.2.2
abbrev FrL (X : Nat) (a : Nat) : Prop := X + 59 ≤ a ∧ a < X + 65
/-- beside the tape's place the rules that are being read may change -/
def MvL (X : Nat) (h h' : Hc) : Prop := ∀ a i, ¬ (a = X + 1 ∧ (i = 4 ∨ i = 5)) → ¬ (X + 59 ≤ a ∧ a < X + 65) → h' a i = h a i
theorem Mv.l {X : Nat} {h h' : Hc} (p : Mv X h h') : MvL X h h' := fun a i n _ => p a i n
theorem MvL.rf {X : Nat} {h : Hc} : MvL X h h := fun _ _ _ _ => rfl
theorem MvL.tr {X : Nat} {h1 h2 h3 : Hc} (p : MvL X h1 h2) (q : MvL X h2 h3) : MvL X h1 h3 := fun a i n m => (q a i n m).trans (p a i n m)
theorem MvL.of {X : Nat} {h h' : Hc} (o : Off (fun a => X + 59 ≤ a ∧ a < X + 59 + 6) h h') : MvL X h h' := fun a i _ m => congrFun (o a (fun q => m ⟨q.1, by omega⟩)) i
theorem TpC.ad {h h' : Hc} {X : Nat} {b : Nat → Int} {L N k : Nat} (q : TpC h X b L N k) (o : Off (fun a => X + 59 ≤ a ∧ a < X + 59 + 6) h h') : TpC h' X b L N k := q.d (o _ (by omega)) (o _ (by omega)) (o _ (by omega))
/-- what reading rules has come to -/
def PaC (h : Hc) (X : Nat) (b : Nat → Int) (L N n : Nat) (v : Int) (R : Nat ⊕ LsT) : Prop := (v = 1 ∧ ∃ u c k, R = .inr (u, c, k) ∧ TpC h X b L N k ∧ LwD h (X + 59) u n c) ∨ (v = 0 ∧ ∃ f, R = .inl f ∧ Wr h X b L f)
theorem PaC.of {h : Hc} {X : Nat} {b : Nat → Int} {L N n : Nat} {v : Int} {R R' : Nat ⊕ LsT} (q : PaC h X b L N n v R) (e : R' = R) : PaC h X b L N n v R' := by rw [e]; exact q
theorem PaC.b {h : Hc} {X : Nat} {b : Nat → Int} {L N n : Nat} {v : Int} {R : Nat ⊕ LsT} (q : PaC h X b L N n v R) : v = 0 ∨ v = 1 := q.elim (fun x => Or.inr x.1) (fun x => Or.inl x.1)
set_option maxHeartbeats 400000 in
theorem C_X2_add {d : Nat} {g : Gs} {h : Hc} {P : Po} {r : Nat} (hG : LwG g r) {u : Nat → Int} {n c : Nat} (hD : LwD h r u n c) (hc : c < 400) {a : Int} (K : ∀ h', Off (fun a => r ≤ a ∧ a < r + 6) h h' → LwD h' r (updW u c a) n (c + 1) → P (.inl (some (vI 1))) g h') : Call (d + 0) 0 0 mX2_add [vR r, vI a] g h P := by
  refine Call_of rfl ⟨by decide +kernel, rfl⟩ (Nat.le_of_ble_eq_true rfl) rfl ?_
  refine aL0 dX2_add_0 ?_
  refine R_getI dX2_add_1 fX2_17.r hG.o ?_
  refine topV (v := ((c : Nat) : Int)) (hD.2.1) ?_
  refine R_sipush dX2_add_4 (by decide) ?_
  refine R_icmp_ge dX2_add_7 (fun hb7 => ?_) (fun hb7 => ?_)
  · exfalso; omega
  · refine aL0 dX2_add_10 ?_
    refine R_getR dX2_add_11 fX2_30.r hG.o rfl ?_
    refine aL0 dX2_add_14 ?_
    refine R_getI dX2_add_15 fX2_17.r hG.o ?_
    refine topV (v := ((c : Nat) : Int)) (hD.2.1) ?_
    refine iL1 dX2_add_18 ?_
    refine iastN dX2_add_19 hG.a4 rfl (by omega) ?_
    refine aL0 dX2_add_20 ?_
    refine dupR dX2_add_21 ?_
    refine R_getI dX2_add_22 fX2_17.r hG.o ?_
    refine topV (v := ((c : Nat) : Int)) (by rw [updH_a (by omega)]; exact hD.2.1) ?_
    refine R_iconst_1 dX2_add_25 ?_
    refine addV dX2_add_26 (v := (((c + 1) : Nat) : Int)) (by rw [wid (by omega) (by omega)]; omega) ?_
    refine R_putI dX2_add_27 fX2_17 hG.o ?_
    refine R_iconst_1 dX2_add_30 ?_
    exact R_zret dX2_add_31 rfl (by decide) (K _ (((Off.rf _ _).upd (by omega)).upd (by omega)) (hD.em hc _))
set_option maxHeartbeats 400000 in
theorem C_X2_closeLine {d : Nat} {g : Gs} {h : Hc} {P : Po} {r : Nat} (hG : LwG g r) {u : Nat → Int} {n c : Nat} (hD : LwD h r u n c) (hc : c ≤ 400) (hn : n < 12) {v a : Int} (K : ∀ h', Off (fun a => r ≤ a ∧ a < r + 6) h h' → LwD h' r (lnU u n v a c) (n + 1) c → P (.inl none) g h') : Call (d + 0) 0 0 mX2_closeLine [vR r, vI v, vI a] g h P := by
  refine Call_of rfl ⟨by decide +kernel, rfl⟩ (Nat.le_of_ble_eq_true rfl) rfl ?_
  refine aL0 dX2_closeLine_0 ?_
  refine R_getI dX2_closeLine_1 fX2_11.r hG.o ?_
  refine topV (v := ((n : Nat) : Int)) (hD.1) ?_
  refine R_if_lt dX2_closeLine_4 (fun hb4 => ?_) (fun hb4 => ?_)
  · exfalso; omega
  · refine aL0 dX2_closeLine_7 ?_
    refine R_getI dX2_closeLine_8 fX2_11.r hG.o ?_
    refine topV (v := ((n : Nat) : Int)) (hD.1) ?_
    refine R_bipush dX2_closeLine_11 (by decide) ?_
    refine R_icmp_ge dX2_closeLine_13 (fun hb13 => ?_) (fun hb13 => ?_)
    · exfalso; omega
    · refine aL0 dX2_closeLine_16 ?_
      refine R_getR dX2_closeLine_17 fX2_20.r hG.o rfl ?_
      refine aL0 dX2_closeLine_20 ?_
      refine R_getI dX2_closeLine_21 fX2_11.r hG.o ?_
      refine topV (v := ((n : Nat) : Int)) (hD.1) ?_
      refine iL1 dX2_closeLine_24 ?_
      refine iastN dX2_closeLine_25 hG.a1 rfl (by omega) ?_
      refine aL0 dX2_closeLine_26 ?_
      refine R_getR dX2_closeLine_27 fX2_24.r hG.o rfl ?_
      refine aL0 dX2_closeLine_30 ?_
      refine R_getI dX2_closeLine_31 fX2_11.r hG.o ?_
      refine topV (v := ((n : Nat) : Int)) (by rw [updH_a (by omega)]; exact hD.1) ?_
      refine iL2 dX2_closeLine_34 ?_
      refine iastN dX2_closeLine_35 hG.a2 rfl (by omega) ?_
      refine aL0 dX2_closeLine_36 ?_
      refine R_getR dX2_closeLine_37 fX2_27.r hG.o rfl ?_
      refine aL0 dX2_closeLine_40 ?_
      refine R_getI dX2_closeLine_41 fX2_11.r hG.o ?_
      refine topV (v := ((n : Nat) : Int)) (by rw [updH_a (by omega), updH_a (by omega)]; exact hD.1) ?_
      refine aL0 dX2_closeLine_44 ?_
      refine R_getI dX2_closeLine_45 fX2_17.r hG.o ?_
      refine topV (v := ((c : Nat) : Int)) (by rw [updH_a (by omega), updH_a (by omega)]; exact hD.2.1) ?_
      refine iastN dX2_closeLine_48 hG.a3 rfl (by omega) ?_
      refine aL0 dX2_closeLine_49 ?_
      refine dupR dX2_closeLine_50 ?_
      refine R_getI dX2_closeLine_51 fX2_11.r hG.o ?_
      refine topV (v := ((n : Nat) : Int)) (by rw [updH_a (by omega), updH_a (by omega), updH_a (by omega)]; exact hD.1) ?_
      refine R_iconst_1 dX2_closeLine_54 ?_
      refine addV dX2_closeLine_55 (v := (((n + 1) : Nat) : Int)) (by rw [wid (by omega) (by omega)]; omega) ?_
      refine R_putI dX2_closeLine_56 fX2_11 hG.o ?_
      exact R_vret dX2_closeLine_59 rfl (K _ (((((Off.rf _ _).upd (by omega)).upd (by omega)).upd (by omega)).upd (by omega)) (hD.ln hc _ _))
set_option maxHeartbeats 400000 in
theorem C_X2_clear {d : Nat} {g : Gs} {h : Hc} {P : Po} {r : Nat} (hG : LwG g r) {u : Nat → Int} (K : ∀ h', Off (fun a => r ≤ a ∧ a < r + 6) h h' → LwD h' r u 0 0 → P (.inl none) g h') : Call (d + 0) 0 0 mX2_clear [vR r] g h P := by
  refine Call_of rfl ⟨by decide +kernel, rfl⟩ (Nat.le_of_ble_eq_true rfl) rfl ?_
  refine aL0 dX2_clear_0 ?_
  refine R_iconst_0 dX2_clear_1 ?_
  refine R_putI dX2_clear_2 fX2_11 hG.o ?_
  refine aL0 dX2_clear_5 ?_
  refine R_iconst_0 dX2_clear_6 ?_
  refine R_putI dX2_clear_7 fX2_17 hG.o ?_
  exact R_vret dX2_clear_10 rfl (K _ (((Off.rf _ _).upd (by omega)).upd (by omega)) ⟨by rw [updH_i (by decide), updH_s]; rfl, by rw [updH_s]; rfl, fun i hi => absurd hi (Nat.not_lt_zero _), fun i hi => absurd hi (Nat.not_lt_zero _)⟩)
set_option maxHeartbeats 1000000 in
theorem C_X3_readComparison {d : Nat} {g : Gs} {h : Hc} {P : Po} {X : Nat} {b : Nat → Int} {L N k : Nat} (hG : ClG g X) (hT : TpC h X b L N k) {u : Nat → Int} {n c : Nat} (hD : LwD h (X + 59) u n c) (hck : c ≤ k) (K : ∀ h' (v : Int), MvL X h h' → PaC h' X b L N n v (cmqL (thT b L) 400 (-1) false u c k) → P (.inl (some (vI v))) g h') : Call (d + 2) 0 0 mX3_readComparison [vR (X + 72)] g h P := by
  have hkN := hT.2.1
  have hN4 := hT.1
  refine Call_of rfl ⟨by decide +kernel, rfl⟩ (Nat.le_of_ble_eq_true rfl) rfl ?_
  refine R_iconst_m1 dX3_readComparison_0 ?_
  refine iS1 dX3_readComparison_1 ?_
  refine R_iconst_0 dX3_readComparison_2 ?_
  refine iS2 dX3_readComparison_3 ?_
  refine R_iconst_0 dX3_readComparison_4 ?_
  refine iS3 dX3_readComparison_5 ?_
  refine loopN 400 (fun q => ∀ (v4 : AV) (hh : Hc) (sg : Int) (pl : Bool) (ua : Nat → Int) (ca ka : Nat), MvL X h hh → TpC hh X b L N ka → LwD hh (X + 59) ua n ca → ca ≤ ka → (pl = true → ca + 1 ≤ ka) → (0 ≤ sg → ca + 1 ≤ ka) → (pl = true → 0 ≤ sg → ca + 2 ≤ ka) → cmqL (thT b L) (400 - q) sg pl ua ca ka = cmqL (thT b L) 400 (-1) false u c k → Run (d + 2) 0 0 mX3_readComparison 6 [vR (X + 72), vI sg, vI (bI (pl)), vI ((q : Nat) : Int), v4] [] g hh P) (fun q hcq ihq v4 hh sg pl ua ca ka hm hTa hDa i1 i2 i3 i4 hR => ?_) 0 (Nat.zero_le _) _ _ (-1) false u c k MvL.rf hT hD hck (fun q => (nomatch q)) (fun q => absurd q (by decide)) (fun q => (nomatch q)) rfl
  refine iL3 dX3_readComparison_6 ?_
  refine R_sipush dX3_readComparison_7 (by decide) ?_
  refine R_icmp_ge dX3_readComparison_10 (fun hb10 => ?_) (fun hb10 => ?_)
  · refine aL0 dX3_readComparison_137 ?_
    refine R_getR dX3_readComparison_138 fX3_17 hG.lwt rfl ?_
    refine invV0 rfl dX3_readComparison_141 kX3_52 hG.tape (Nat.le_of_ble_eq_true rfl) (Nat.zero_le _) (Nat.zero_le _) (C_X8_refuse hG hTa (fun h1 m1 w1 => konI ?_))
    have D1 := hDa.mv m1
    exact R_zret dX3_readComparison_144 rfl (by decide) (K _ _ (hm.tr m1.l) (Or.inr ⟨rfl, ka, by rw [← hR, show 400 - q = 0 by omega]; rfl, w1⟩))
  · have hm9 : 400 - q = (399 - q) + 1 := by omega
    refine aL0 dX3_readComparison_13 ?_
    refine R_getR dX3_readComparison_14 fX3_17 hG.lwt rfl ?_
    refine R_iconst_0 dX3_readComparison_17 ?_
    refine R_sipush dX3_readComparison_18 (by decide) ?_
    refine invV2 rfl dX3_readComparison_21 kX3_27 hG.tape (Nat.le_of_ble_eq_true rfl) (Nat.zero_le _) (Nat.zero_le _) (C_X8_needFrom hG hTa (lo := 0) (hi := 1006) (by decide) (by decide) (fun h2 v2 m2 q2 => konI ?_))
    have D2 := hDa.mv m2
    refine iS4 dX3_readComparison_24 ?_
    refine iL4 dX3_readComparison_26 ?_
    refine R_if_ge dX3_readComparison_28 (fun hb28 => ?_) (fun hb28 => ?_)
    · obtain ⟨b2, k2, T2, r2⟩ := q2.yes (by omega)
      obtain ⟨x1, x3, x4⟩ := rdN_inv r2
      subst x4
      have x5 : v2 = thT b L ka := by omega
      subst x5
      have y1 := T2.2.1
      have y2 := T2.1
      refine aL0 dX3_readComparison_33 ?_
      refine R_getR dX3_readComparison_34 fX3_11.r hG.lwt rfl ?_
      refine iL4 dX3_readComparison_37 ?_
      refine invV1 rfl dX3_readComparison_39 kX3_49 hG.ru2.o (Nat.le_of_ble_eq_true rfl) (Nat.zero_le _) (Nat.zero_le _) (C_X2_add hG.ru2 D2 (a := thT b L ka) (by omega) (fun h3 o3 D3 => konI ?_))
      have T3 := T2.ad o3
      refine popI dX3_readComparison_42 ?_
      refine iL2 dX3_readComparison_43 ?_
      refine R_ifB_eq dX3_readComparison_44 (fun hb44 => ?_) (fun hb44 => ?_)
      · have hpl := hb44
        subst hpl
        refine aL0 dX3_readComparison_58 ?_
        refine R_getR dX3_readComparison_59 fX3_17 hG.lwt rfl ?_
        refine R_sipush dX3_readComparison_62 (by decide) ?_
        refine invV1 rfl dX3_readComparison_65 kX3_35 hG.tape (Nat.le_of_ble_eq_true rfl) (Nat.zero_le _) (Nat.zero_le _) (C_X8_take hG T3 (x := 2043) (by decide) (fun h4 m4 t4 => konI ?_))
        have D4 := D3.mv m4
        refine iS2 dX3_readComparison_68 ?_
        refine iL2 dX3_readComparison_69 ?_
        refine R_ifB_ne dX3_readComparison_70 (fun hb70 => ?_) (fun hb70 => ?_)
        · have a4 := of_decide_eq_true hb70
          rw [if_pos a4] at t4
          refine eqI2 (v := 1) (by rw [decide_eq_true a4]; rfl) ?_
          refine iL2 dX3_readComparison_86 ?_
          refine R_if_ne dX3_readComparison_87 (fun _ => ?_) (fun hb => absurd hb (by decide))
          refine iInc3 dX3_readComparison_131 (winc (by omega)) ?_
          refine R_goto dX3_readComparison_134 ?_
          exact ihq (by omega) _ _ sg true _ _ _ (((hm.tr m2.l).tr (MvL.of o3)).tr m4.l) t4 D4 (by omega) (fun _ => by omega) (fun q9 => by omega) (fun _ q9 => by omega) (by have e8 := hR; rw [hm9, cmqL_p x1 a4] at e8; rw [show 400 - (q + 1) = 399 - q by omega]; exact e8)
        · have a4 := of_decide_eq_false hb70
          rw [if_neg a4] at t4
          refine eqI2 (v := 0) (by rw [decide_eq_false a4]; rfl) ?_
          refine iL1 dX3_readComparison_73 ?_
          refine R_if_lt dX3_readComparison_74 (fun hb74 => ?_) (fun hb74 => ?_)
          · refine iL2 dX3_readComparison_86 ?_
            refine R_if_ne dX3_readComparison_87 (fun hb => absurd hb (by decide)) (fun _ => ?_)
            refine aL0 dX3_readComparison_90 ?_
            refine R_getR dX3_readComparison_91 fX3_17 hG.lwt rfl ?_
            refine invV0 rfl dX3_readComparison_94 kX3_21 hG.tape (Nat.le_of_ble_eq_true rfl) (Nat.zero_le _) (Nat.zero_le _) (C_X8_here hG t4 (konI ?_))
            refine iS1 dX3_readComparison_97 ?_
            refine iL1 dX3_readComparison_98 ?_
            refine R_sipush dX3_readComparison_99 (by decide) ?_
            refine R_icmp_eq dX3_readComparison_102 (fun hb102 => ?_) (fun hb102 => ?_)
            · refine aL0 dX3_readComparison_112 ?_
              refine R_getR dX3_readComparison_113 fX3_17 hG.lwt rfl ?_
              refine iL1 dX3_readComparison_116 ?_
              refine invV1 rfl dX3_readComparison_117 kX3_35 hG.tape (Nat.le_of_ble_eq_true rfl) (Nat.zero_le _) (Nat.zero_le _) (C_X8_take hG t4 (x := thT b L (ka + 1)) (by omega) (fun h5 m5 t5 => konI ?_))
              have D5 := D4.mv m5
              refine R_ifB_ne dX3_readComparison_120 (fun hb120 => ?_) (fun hb120 => ?_)
              · rw [if_pos rfl] at t5
                refine iInc3 dX3_readComparison_131 (winc (by omega)) ?_
                refine R_goto dX3_readComparison_134 ?_
                exact ihq (by omega) _ _ _ false _ _ _ ((((hm.tr m2.l).tr (MvL.of o3)).tr m4.l).tr m5.l) t5 D5 (by omega) (fun q9 => nomatch q9) (fun q9 => by omega) (fun q9 => nomatch q9) (by have e8 := hR; rw [hm9, cmqL_g x1 a4 (by omega) (by omega)] at e8; rw [show 400 - (q + 1) = 399 - q by omega]; exact e8)
              · exact absurd (decide_eq_true (p := thT b L (ka + 1) = thT b L (ka + 1)) rfl) (by rw [hb120]; decide)
            · refine iL1 dX3_readComparison_105 ?_
              refine R_sipush dX3_readComparison_106 (by decide) ?_
              refine R_icmp_ne dX3_readComparison_109 (fun hb109 => ?_) (fun hb109 => ?_)
              · refine aL0 dX3_readComparison_123 ?_
                refine R_getR dX3_readComparison_124 fX3_17 hG.lwt rfl ?_
                refine invV0 rfl dX3_readComparison_127 kX3_52 hG.tape (Nat.le_of_ble_eq_true rfl) (Nat.zero_le _) (Nat.zero_le _) (C_X8_refuse hG t4 (fun h6 m6 w6 => konI ?_))
                have D6 := D4.mv m6
                exact R_zret dX3_readComparison_130 rfl (by decide) (K _ _ ((((hm.tr m2.l).tr (MvL.of o3)).tr m4.l).tr m6.l) (Or.inr ⟨rfl, _, by rw [← hR, hm9]; exact cmqL_w x1 a4 (by omega) (by omega), w6⟩))
              · refine aL0 dX3_readComparison_112 ?_
                refine R_getR dX3_readComparison_113 fX3_17 hG.lwt rfl ?_
                refine iL1 dX3_readComparison_116 ?_
                refine invV1 rfl dX3_readComparison_117 kX3_35 hG.tape (Nat.le_of_ble_eq_true rfl) (Nat.zero_le _) (Nat.zero_le _) (C_X8_take hG t4 (x := thT b L (ka + 1)) (by omega) (fun h7 m7 t7 => konI ?_))
                have D7 := D4.mv m7
                refine R_ifB_ne dX3_readComparison_120 (fun hb120 => ?_) (fun hb120 => ?_)
                · rw [if_pos rfl] at t7
                  refine iInc3 dX3_readComparison_131 (winc (by omega)) ?_
                  refine R_goto dX3_readComparison_134 ?_
                  exact ihq (by omega) _ _ _ false _ _ _ ((((hm.tr m2.l).tr (MvL.of o3)).tr m4.l).tr m7.l) t7 D7 (by omega) (fun q9 => nomatch q9) (fun q9 => by omega) (fun q9 => nomatch q9) (by have e8 := hR; rw [hm9, cmqL_g x1 a4 (by omega) (by omega)] at e8; rw [show 400 - (q + 1) = 399 - q by omega]; exact e8)
                · exact absurd (decide_eq_true (p := thT b L (ka + 1) = thT b L (ka + 1)) rfl) (by rw [hb120]; decide)
          · have i7 := i3 (by omega)
            refine aL0 dX3_readComparison_77 ?_
            refine R_getR dX3_readComparison_78 fX3_11.r hG.lwt rfl ?_
            refine iL1 dX3_readComparison_81 ?_
            refine invV1 rfl dX3_readComparison_82 kX3_49 hG.ru2.o (Nat.le_of_ble_eq_true rfl) (Nat.zero_le _) (Nat.zero_le _) (C_X2_add hG.ru2 D4 (a := sg) (by omega) (fun h8 o8 D8 => konI ?_))
            have T8 := t4.ad o8
            exact R_zret dX3_readComparison_85 rfl (by decide) (K _ _ ((((hm.tr m2.l).tr (MvL.of o3)).tr m4.l).tr (MvL.of o8)) (Or.inl ⟨rfl, _, _, _, by rw [← hR, hm9]; exact cmqL_e x1 a4 (by omega), T8, D8⟩))
      · have hpl := hb44
        have i5 := i2 hpl
        have i6 := i4 hpl
        subst hpl
        refine aL0 dX3_readComparison_47 ?_
        refine R_getR dX3_readComparison_48 fX3_11.r hG.lwt rfl ?_
        refine R_sipush dX3_readComparison_51 (by decide) ?_
        refine invV1 rfl dX3_readComparison_54 kX3_49 hG.ru2.o (Nat.le_of_ble_eq_true rfl) (Nat.zero_le _) (Nat.zero_le _) (C_X2_add hG.ru2 D3 (a := 2043) (by omega) (fun h9 o9 D9 => konI ?_))
        have T9 := T3.ad o9
        refine popI dX3_readComparison_57 ?_
        refine aL0 dX3_readComparison_58 ?_
        refine R_getR dX3_readComparison_59 fX3_17 hG.lwt rfl ?_
        refine R_sipush dX3_readComparison_62 (by decide) ?_
        refine invV1 rfl dX3_readComparison_65 kX3_35 hG.tape (Nat.le_of_ble_eq_true rfl) (Nat.zero_le _) (Nat.zero_le _) (C_X8_take hG T9 (x := 2043) (by decide) (fun h10 m10 t10 => konI ?_))
        have D10 := D9.mv m10
        refine iS2 dX3_readComparison_68 ?_
        refine iL2 dX3_readComparison_69 ?_
        refine R_ifB_ne dX3_readComparison_70 (fun hb70 => ?_) (fun hb70 => ?_)
        · have a10 := of_decide_eq_true hb70
          rw [if_pos a10] at t10
          refine eqI2 (v := 1) (by rw [decide_eq_true a10]; rfl) ?_
          refine iL2 dX3_readComparison_86 ?_
          refine R_if_ne dX3_readComparison_87 (fun _ => ?_) (fun hb => absurd hb (by decide))
          refine iInc3 dX3_readComparison_131 (winc (by omega)) ?_
          refine R_goto dX3_readComparison_134 ?_
          exact ihq (by omega) _ _ sg true _ _ _ ((((hm.tr m2.l).tr (MvL.of o3)).tr (MvL.of o9)).tr m10.l) t10 D10 (by omega) (fun _ => by omega) (fun q9 => by omega) (fun _ q9 => by omega) (by have e8 := hR; rw [hm9, cmqL_p x1 a10] at e8; rw [show 400 - (q + 1) = 399 - q by omega]; exact e8)
        · have a10 := of_decide_eq_false hb70
          rw [if_neg a10] at t10
          refine eqI2 (v := 0) (by rw [decide_eq_false a10]; rfl) ?_
          refine iL1 dX3_readComparison_73 ?_
          refine R_if_lt dX3_readComparison_74 (fun hb74 => ?_) (fun hb74 => ?_)
          · refine iL2 dX3_readComparison_86 ?_
            refine R_if_ne dX3_readComparison_87 (fun hb => absurd hb (by decide)) (fun _ => ?_)
            refine aL0 dX3_readComparison_90 ?_
            refine R_getR dX3_readComparison_91 fX3_17 hG.lwt rfl ?_
            refine invV0 rfl dX3_readComparison_94 kX3_21 hG.tape (Nat.le_of_ble_eq_true rfl) (Nat.zero_le _) (Nat.zero_le _) (C_X8_here hG t10 (konI ?_))
            refine iS1 dX3_readComparison_97 ?_
            refine iL1 dX3_readComparison_98 ?_
            refine R_sipush dX3_readComparison_99 (by decide) ?_
            refine R_icmp_eq dX3_readComparison_102 (fun hb102 => ?_) (fun hb102 => ?_)
            · refine aL0 dX3_readComparison_112 ?_
              refine R_getR dX3_readComparison_113 fX3_17 hG.lwt rfl ?_
              refine iL1 dX3_readComparison_116 ?_
              refine invV1 rfl dX3_readComparison_117 kX3_35 hG.tape (Nat.le_of_ble_eq_true rfl) (Nat.zero_le _) (Nat.zero_le _) (C_X8_take hG t10 (x := thT b L (ka + 1)) (by omega) (fun h11 m11 t11 => konI ?_))
              have D11 := D10.mv m11
              refine R_ifB_ne dX3_readComparison_120 (fun hb120 => ?_) (fun hb120 => ?_)
              · rw [if_pos rfl] at t11
                refine iInc3 dX3_readComparison_131 (winc (by omega)) ?_
                refine R_goto dX3_readComparison_134 ?_
                exact ihq (by omega) _ _ _ false _ _ _ (((((hm.tr m2.l).tr (MvL.of o3)).tr (MvL.of o9)).tr m10.l).tr m11.l) t11 D11 (by omega) (fun q9 => nomatch q9) (fun q9 => by omega) (fun q9 => nomatch q9) (by have e8 := hR; rw [hm9, cmqL_g x1 a10 (by omega) (by omega)] at e8; rw [show 400 - (q + 1) = 399 - q by omega]; exact e8)
              · exact absurd (decide_eq_true (p := thT b L (ka + 1) = thT b L (ka + 1)) rfl) (by rw [hb120]; decide)
            · refine iL1 dX3_readComparison_105 ?_
              refine R_sipush dX3_readComparison_106 (by decide) ?_
              refine R_icmp_ne dX3_readComparison_109 (fun hb109 => ?_) (fun hb109 => ?_)
              · refine aL0 dX3_readComparison_123 ?_
                refine R_getR dX3_readComparison_124 fX3_17 hG.lwt rfl ?_
                refine invV0 rfl dX3_readComparison_127 kX3_52 hG.tape (Nat.le_of_ble_eq_true rfl) (Nat.zero_le _) (Nat.zero_le _) (C_X8_refuse hG t10 (fun h12 m12 w12 => konI ?_))
                have D12 := D10.mv m12
                exact R_zret dX3_readComparison_130 rfl (by decide) (K _ _ (((((hm.tr m2.l).tr (MvL.of o3)).tr (MvL.of o9)).tr m10.l).tr m12.l) (Or.inr ⟨rfl, _, by rw [← hR, hm9]; exact cmqL_w x1 a10 (by omega) (by omega), w12⟩))
              · refine aL0 dX3_readComparison_112 ?_
                refine R_getR dX3_readComparison_113 fX3_17 hG.lwt rfl ?_
                refine iL1 dX3_readComparison_116 ?_
                refine invV1 rfl dX3_readComparison_117 kX3_35 hG.tape (Nat.le_of_ble_eq_true rfl) (Nat.zero_le _) (Nat.zero_le _) (C_X8_take hG t10 (x := thT b L (ka + 1)) (by omega) (fun h13 m13 t13 => konI ?_))
                have D13 := D10.mv m13
                refine R_ifB_ne dX3_readComparison_120 (fun hb120 => ?_) (fun hb120 => ?_)
                · rw [if_pos rfl] at t13
                  refine iInc3 dX3_readComparison_131 (winc (by omega)) ?_
                  refine R_goto dX3_readComparison_134 ?_
                  exact ihq (by omega) _ _ _ false _ _ _ (((((hm.tr m2.l).tr (MvL.of o3)).tr (MvL.of o9)).tr m10.l).tr m13.l) t13 D13 (by omega) (fun q9 => nomatch q9) (fun q9 => by omega) (fun q9 => nomatch q9) (by have e8 := hR; rw [hm9, cmqL_g x1 a10 (by omega) (by omega)] at e8; rw [show 400 - (q + 1) = 399 - q by omega]; exact e8)
                · exact absurd (decide_eq_true (p := thT b L (ka + 1) = thT b L (ka + 1)) rfl) (by rw [hb120]; decide)
          · have i7 := i3 (by omega)
            have i8 := i6 (by omega)
            refine aL0 dX3_readComparison_77 ?_
            refine R_getR dX3_readComparison_78 fX3_11.r hG.lwt rfl ?_
            refine iL1 dX3_readComparison_81 ?_
            refine invV1 rfl dX3_readComparison_82 kX3_49 hG.ru2.o (Nat.le_of_ble_eq_true rfl) (Nat.zero_le _) (Nat.zero_le _) (C_X2_add hG.ru2 D10 (a := sg) (by omega) (fun h14 o14 D14 => konI ?_))
            have T14 := t10.ad o14
            exact R_zret dX3_readComparison_85 rfl (by decide) (K _ _ (((((hm.tr m2.l).tr (MvL.of o3)).tr (MvL.of o9)).tr m10.l).tr (MvL.of o14)) (Or.inl ⟨rfl, _, _, _, by rw [← hR, hm9]; exact cmqL_e x1 a10 (by omega), T14, D14⟩))
    · obtain ⟨b2, f2, w2, r2⟩ := q2.no (by omega)
      obtain ⟨x1, x2⟩ := rdN_inf r2
      subst x2
      refine R_iconst_0 dX3_readComparison_31 ?_
      exact R_zret dX3_readComparison_32 rfl (by decide) (K _ _ (hm.tr m2.l) (Or.inr ⟨rfl, _, by rw [← hR, hm9]; exact cmqL_n x1, w2⟩))
def AtC (X : Nat) (b : Nat → Int) (L r : Nat) : Prop := ∀ {d : Nat} {g : Gs} {h : Hc} {P : Po} {N k : Nat} {u : Nat → Int} {n c dp : Nat}, ClG g X → TpC h X b L N k → LwD h (X + 59) u n c → c ≤ k → dp + r = 6 → 2 * r + 4 ≤ d → (∀ h' (v : Int), MvL X h h' → PaC h' X b L N n v (atmL (thT b L) r u c k) → P (.inl (some (vI v))) g h') → Call d 0 0 mX3_readAtom [vR (X + 72), vI ((dp : Nat) : Int)] g h P
def CnC (X : Nat) (b : Nat → Int) (L r : Nat) : Prop := ∀ {d : Nat} {g : Gs} {h : Hc} {P : Po} {N k : Nat} {u : Nat → Int} {n c dp : Nat}, ClG g X → TpC h X b L N k → LwD h (X + 59) u n c → c ≤ k → dp + r = 6 → 2 * r + 5 ≤ d → (∀ h' (v : Int), MvL X h h' → PaC h' X b L N n v (cndL (thT b L) (atmL (thT b L) r) 400 false false u c k) → P (.inl (some (vI v))) g h') → Call d 0 0 mX3_readCondition [vR (X + 72), vI ((dp : Nat) : Int)] g h P
set_option maxHeartbeats 1000000 in
theorem C_X3_readCondition {d : Nat} {g : Gs} {h : Hc} {P : Po} {X : Nat} {b : Nat → Int} {L N k : Nat} (hG : ClG g X) (hT : TpC h X b L N k) {u : Nat → Int} {n c : Nat} (hD : LwD h (X + 59) u n c) (hck : c ≤ k) {r dp : Nat} (hA : AtC X b L r) (hdp : dp + r = 6) (hd : 2 * r + 5 ≤ d + 5) (K : ∀ h' (v : Int), MvL X h h' → PaC h' X b L N n v (cndL (thT b L) (atmL (thT b L) r) 400 false false u c k) → P (.inl (some (vI v))) g h') : Call (d + 5) 0 0 mX3_readCondition [vR (X + 72), vI ((dp : Nat) : Int)] g h P := by
  have hkN := hT.2.1
  have hN4 := hT.1
  refine Call_of rfl ⟨by decide +kernel, rfl⟩ (Nat.le_of_ble_eq_true rfl) rfl ?_
  refine R_iconst_0 dX3_readCondition_0 ?_
  refine iS2 dX3_readCondition_1 ?_
  refine R_iconst_0 dX3_readCondition_2 ?_
  refine iS3 dX3_readCondition_3 ?_
  refine R_iconst_0 dX3_readCondition_4 ?_
  refine iS4 dX3_readCondition_5 ?_
  refine loopN 400 (fun q => ∀ (hh : Hc) (o a : Bool) (ua : Nat → Int) (ca ka : Nat), MvL X h hh → TpC hh X b L N ka → LwD hh (X + 59) ua n ca → ca ≤ ka → (o = true → ca + 1 ≤ ka) → (a = true → ca + 1 ≤ ka) → (o = true → a = true → ca + 2 ≤ ka) → cndL (thT b L) (atmL (thT b L) r) (400 - q) o a ua ca ka = cndL (thT b L) (atmL (thT b L) r) 400 false false u c k → Run (d + 5) 0 0 mX3_readCondition 7 [vR (X + 72), vI ((dp : Nat) : Int), vI (bI (o)), vI (bI (a)), vI ((q : Nat) : Int)] [] g hh P) (fun q hcq ihq hh o a ua ca ka hm hTa hDa i1 i2 i3 i4 hR => ?_) 0 (Nat.zero_le _) _ false false u c k MvL.rf hT hD hck (fun q => (nomatch q)) (fun q => (nomatch q)) (fun q => (nomatch q)) rfl
  refine iL4 dX3_readCondition_7 ?_
  refine R_sipush dX3_readCondition_9 (by decide) ?_
  refine R_icmp_ge dX3_readCondition_12 (fun hb12 => ?_) (fun hb12 => ?_)
  · refine aL0 dX3_readCondition_93 ?_
    refine R_getR dX3_readCondition_94 fX3_17 hG.lwt rfl ?_
    refine invV0 rfl dX3_readCondition_97 kX3_52 hG.tape (Nat.le_of_ble_eq_true rfl) (Nat.zero_le _) (Nat.zero_le _) (C_X8_refuse hG hTa (fun h1 m1 w1 => konI ?_))
    have D1 := hDa.mv m1
    exact R_zret dX3_readCondition_100 rfl (by decide) (K _ _ (hm.tr m1.l) (Or.inr ⟨rfl, ka, by rw [← hR, show 400 - q = 0 by omega]; rfl, w1⟩))
  · have hm9 : 400 - q = (399 - q) + 1 := by omega
    refine aL0 dX3_readCondition_15 ?_
    refine iL1 dX3_readCondition_16 ?_
    refine invV1 rfl dX3_readCondition_17 kX3_46 hG.lwt (Nat.le_of_ble_eq_true rfl) (Nat.zero_le _) (Nat.zero_le _) (hA hG hTa hDa (by omega) (by omega) (by omega) (fun h2 v2 m2 q2 => konI ?_))
    refine R_if_ne dX3_readCondition_20 (fun hb20 => ?_) (fun hb20 => ?_)
    · rcases q2 with ⟨e2, u2, c2, k2, r2, T2, D2⟩ | ⟨e2, f2, r2, w2⟩
      rotate_left
      · exfalso; omega
      obtain ⟨z1, z2, z3⟩ := atmL_le r _ _ _ _ _ _ r2
      have y1 := T2.2.1
      have y2 := T2.1
      refine iL3 dX3_readCondition_25 ?_
      refine R_ifB_eq dX3_readCondition_26 (fun hb26 => ?_) (fun hb26 => ?_)
      · have hpl := hb26
        subst hpl
        refine aL0 dX3_readCondition_40 ?_
        refine R_getR dX3_readCondition_41 fX3_17 hG.lwt rfl ?_
        refine R_sipush dX3_readCondition_44 (by decide) ?_
        refine invV1 rfl dX3_readCondition_47 kX3_35 hG.tape (Nat.le_of_ble_eq_true rfl) (Nat.zero_le _) (Nat.zero_le _) (C_X8_take hG T2 (x := 1022) (by decide) (fun h3 m3 t3 => konI ?_))
        have D3 := D2.mv m3
        refine iS3 dX3_readCondition_50 ?_
        refine iL3 dX3_readCondition_51 ?_
        refine R_ifB_ne dX3_readCondition_52 (fun hb52 => ?_) (fun hb52 => ?_)
        · have a3 := of_decide_eq_true hb52
          rw [if_pos a3] at t3
          refine eqI3 (v := 1) (by rw [decide_eq_true a3]; rfl) ?_
          refine iInc4 dX3_readCondition_87 (winc (by omega)) ?_
          refine R_goto dX3_readCondition_90 ?_
          exact ihq (by omega) _ o true _ _ _ ((hm.tr m2).tr m3.l) t3 D3 (by omega) (fun q9 => by have := i2 q9; omega) (fun _ => by omega) (fun q9 _ => by have := i2 q9; omega) (by have e8 := hR; rw [hm9, cndL_a r2 a3] at e8; rw [show 400 - (q + 1) = 399 - q by omega]; exact e8)
        · have a3 := of_decide_eq_false hb52
          rw [if_neg a3] at t3
          refine eqI3 (v := 0) (by rw [decide_eq_false a3]; rfl) ?_
          refine iL2 dX3_readCondition_55 ?_
          refine R_ifB_eq dX3_readCondition_56 (fun hb56 => ?_) (fun hb56 => ?_)
          · have hpo := hb56
            subst hpo
            refine aL0 dX3_readCondition_70 ?_
            refine R_getR dX3_readCondition_71 fX3_17 hG.lwt rfl ?_
            refine R_sipush dX3_readCondition_74 (by decide) ?_
            refine invV1 rfl dX3_readCondition_77 kX3_35 hG.tape (Nat.le_of_ble_eq_true rfl) (Nat.zero_le _) (Nat.zero_le _) (C_X8_take hG t3 (x := 1021) (by decide) (fun h4 m4 t4 => konI ?_))
            have D4 := D3.mv m4
            refine iS2 dX3_readCondition_80 ?_
            refine iL2 dX3_readCondition_81 ?_
            refine R_ifB_ne dX3_readCondition_82 (fun hb82 => ?_) (fun hb82 => ?_)
            · have a4 := of_decide_eq_true hb82
              rw [if_pos a4] at t4
              refine eqI2 (v := 1) (by rw [decide_eq_true a4]; rfl) ?_
              refine iInc4 dX3_readCondition_87 (winc (by omega)) ?_
              refine R_goto dX3_readCondition_90 ?_
              exact ihq (by omega) _ true false _ _ _ (((hm.tr m2).tr m3.l).tr m4.l) t4 D4 (by omega) (fun _ => by omega) (fun q9 => nomatch q9) (fun _ q9 => nomatch q9) (by have e8 := hR; rw [hm9, cndL_o r2 a3 a4] at e8; rw [show 400 - (q + 1) = 399 - q by omega]; exact e8)
            · have a4 := of_decide_eq_false hb82
              rw [if_neg a4] at t4
              refine eqI2 (v := 0) (by rw [decide_eq_false a4]; rfl) ?_
              refine R_iconst_1 dX3_readCondition_85 ?_
              exact R_zret dX3_readCondition_86 rfl (by decide) (K _ _ (((hm.tr m2).tr m3.l).tr m4.l) (Or.inl ⟨rfl, _, _, _, by rw [← hR, hm9]; exact cndL_e r2 a3 a4, t4, D4⟩))
          · have hpo := hb56
            have i7 := i2 hpo
            subst hpo
            refine aL0 dX3_readCondition_59 ?_
            refine R_getR dX3_readCondition_60 fX3_11.r hG.lwt rfl ?_
            refine R_sipush dX3_readCondition_63 (by decide) ?_
            refine invV1 rfl dX3_readCondition_66 kX3_49 hG.ru2.o (Nat.le_of_ble_eq_true rfl) (Nat.zero_le _) (Nat.zero_le _) (C_X2_add hG.ru2 D3 (a := 1021) (by omega) (fun h5 o5 D5 => konI ?_))
            have T5 := t3.ad o5
            refine popI dX3_readCondition_69 ?_
            refine aL0 dX3_readCondition_70 ?_
            refine R_getR dX3_readCondition_71 fX3_17 hG.lwt rfl ?_
            refine R_sipush dX3_readCondition_74 (by decide) ?_
            refine invV1 rfl dX3_readCondition_77 kX3_35 hG.tape (Nat.le_of_ble_eq_true rfl) (Nat.zero_le _) (Nat.zero_le _) (C_X8_take hG T5 (x := 1021) (by decide) (fun h6 m6 t6 => konI ?_))
            have D6 := D5.mv m6
            refine iS2 dX3_readCondition_80 ?_
            refine iL2 dX3_readCondition_81 ?_
            refine R_ifB_ne dX3_readCondition_82 (fun hb82 => ?_) (fun hb82 => ?_)
            · have a6 := of_decide_eq_true hb82
              rw [if_pos a6] at t6
              refine eqI2 (v := 1) (by rw [decide_eq_true a6]; rfl) ?_
              refine iInc4 dX3_readCondition_87 (winc (by omega)) ?_
              refine R_goto dX3_readCondition_90 ?_
              exact ihq (by omega) _ true false _ _ _ ((((hm.tr m2).tr m3.l).tr (MvL.of o5)).tr m6.l) t6 D6 (by omega) (fun _ => by omega) (fun q9 => nomatch q9) (fun _ q9 => nomatch q9) (by have e8 := hR; rw [hm9, cndL_o r2 a3 a6] at e8; rw [show 400 - (q + 1) = 399 - q by omega]; exact e8)
            · have a6 := of_decide_eq_false hb82
              rw [if_neg a6] at t6
              refine eqI2 (v := 0) (by rw [decide_eq_false a6]; rfl) ?_
              refine R_iconst_1 dX3_readCondition_85 ?_
              exact R_zret dX3_readCondition_86 rfl (by decide) (K _ _ ((((hm.tr m2).tr m3.l).tr (MvL.of o5)).tr m6.l) (Or.inl ⟨rfl, _, _, _, by rw [← hR, hm9]; exact cndL_e r2 a3 a6, t6, D6⟩))
      · have hpl := hb26
        have i5 := i3 hpl
        have i6 := fun q9 => i4 q9 hpl
        subst hpl
        refine aL0 dX3_readCondition_29 ?_
        refine R_getR dX3_readCondition_30 fX3_11.r hG.lwt rfl ?_
        refine R_sipush dX3_readCondition_33 (by decide) ?_
        refine invV1 rfl dX3_readCondition_36 kX3_49 hG.ru2.o (Nat.le_of_ble_eq_true rfl) (Nat.zero_le _) (Nat.zero_le _) (C_X2_add hG.ru2 D2 (a := 1022) (by omega) (fun h7 o7 D7 => konI ?_))
        have T7 := T2.ad o7
        refine popI dX3_readCondition_39 ?_
        refine aL0 dX3_readCondition_40 ?_
        refine R_getR dX3_readCondition_41 fX3_17 hG.lwt rfl ?_
        refine R_sipush dX3_readCondition_44 (by decide) ?_
        refine invV1 rfl dX3_readCondition_47 kX3_35 hG.tape (Nat.le_of_ble_eq_true rfl) (Nat.zero_le _) (Nat.zero_le _) (C_X8_take hG T7 (x := 1022) (by decide) (fun h8 m8 t8 => konI ?_))
        have D8 := D7.mv m8
        refine iS3 dX3_readCondition_50 ?_
        refine iL3 dX3_readCondition_51 ?_
        refine R_ifB_ne dX3_readCondition_52 (fun hb52 => ?_) (fun hb52 => ?_)
        · have a8 := of_decide_eq_true hb52
          rw [if_pos a8] at t8
          refine eqI3 (v := 1) (by rw [decide_eq_true a8]; rfl) ?_
          refine iInc4 dX3_readCondition_87 (winc (by omega)) ?_
          refine R_goto dX3_readCondition_90 ?_
          exact ihq (by omega) _ o true _ _ _ (((hm.tr m2).tr (MvL.of o7)).tr m8.l) t8 D8 (by omega) (fun q9 => by have := i2 q9; have := i4 q9 rfl; omega) (fun _ => by omega) (fun q9 _ => by have := i2 q9; have := i4 q9 rfl; omega) (by have e8 := hR; rw [hm9, cndL_a r2 a8] at e8; rw [show 400 - (q + 1) = 399 - q by omega]; exact e8)
        · have a8 := of_decide_eq_false hb52
          rw [if_neg a8] at t8
          refine eqI3 (v := 0) (by rw [decide_eq_false a8]; rfl) ?_
          refine iL2 dX3_readCondition_55 ?_
          refine R_ifB_eq dX3_readCondition_56 (fun hb56 => ?_) (fun hb56 => ?_)
          · have hpo := hb56
            subst hpo
            refine aL0 dX3_readCondition_70 ?_
            refine R_getR dX3_readCondition_71 fX3_17 hG.lwt rfl ?_
            refine R_sipush dX3_readCondition_74 (by decide) ?_
            refine invV1 rfl dX3_readCondition_77 kX3_35 hG.tape (Nat.le_of_ble_eq_true rfl) (Nat.zero_le _) (Nat.zero_le _) (C_X8_take hG t8 (x := 1021) (by decide) (fun h9 m9 t9 => konI ?_))
            have D9 := D8.mv m9
            refine iS2 dX3_readCondition_80 ?_
            refine iL2 dX3_readCondition_81 ?_
            refine R_ifB_ne dX3_readCondition_82 (fun hb82 => ?_) (fun hb82 => ?_)
            · have a9 := of_decide_eq_true hb82
              rw [if_pos a9] at t9
              refine eqI2 (v := 1) (by rw [decide_eq_true a9]; rfl) ?_
              refine iInc4 dX3_readCondition_87 (winc (by omega)) ?_
              refine R_goto dX3_readCondition_90 ?_
              exact ihq (by omega) _ true false _ _ _ ((((hm.tr m2).tr (MvL.of o7)).tr m8.l).tr m9.l) t9 D9 (by omega) (fun _ => by omega) (fun q9 => nomatch q9) (fun _ q9 => nomatch q9) (by have e8 := hR; rw [hm9, cndL_o r2 a8 a9] at e8; rw [show 400 - (q + 1) = 399 - q by omega]; exact e8)
            · have a9 := of_decide_eq_false hb82
              rw [if_neg a9] at t9
              refine eqI2 (v := 0) (by rw [decide_eq_false a9]; rfl) ?_
              refine R_iconst_1 dX3_readCondition_85 ?_
              exact R_zret dX3_readCondition_86 rfl (by decide) (K _ _ ((((hm.tr m2).tr (MvL.of o7)).tr m8.l).tr m9.l) (Or.inl ⟨rfl, _, _, _, by rw [← hR, hm9]; exact cndL_e r2 a8 a9, t9, D9⟩))
          · have hpo := hb56
            have i7 := i2 hpo
            have i8 := i6 hpo
            subst hpo
            refine aL0 dX3_readCondition_59 ?_
            refine R_getR dX3_readCondition_60 fX3_11.r hG.lwt rfl ?_
            refine R_sipush dX3_readCondition_63 (by decide) ?_
            refine invV1 rfl dX3_readCondition_66 kX3_49 hG.ru2.o (Nat.le_of_ble_eq_true rfl) (Nat.zero_le _) (Nat.zero_le _) (C_X2_add hG.ru2 D8 (a := 1021) (by omega) (fun h10 o10 D10 => konI ?_))
            have T10 := t8.ad o10
            refine popI dX3_readCondition_69 ?_
            refine aL0 dX3_readCondition_70 ?_
            refine R_getR dX3_readCondition_71 fX3_17 hG.lwt rfl ?_
            refine R_sipush dX3_readCondition_74 (by decide) ?_
            refine invV1 rfl dX3_readCondition_77 kX3_35 hG.tape (Nat.le_of_ble_eq_true rfl) (Nat.zero_le _) (Nat.zero_le _) (C_X8_take hG T10 (x := 1021) (by decide) (fun h11 m11 t11 => konI ?_))
            have D11 := D10.mv m11
            refine iS2 dX3_readCondition_80 ?_
            refine iL2 dX3_readCondition_81 ?_
            refine R_ifB_ne dX3_readCondition_82 (fun hb82 => ?_) (fun hb82 => ?_)
            · have a11 := of_decide_eq_true hb82
              rw [if_pos a11] at t11
              refine eqI2 (v := 1) (by rw [decide_eq_true a11]; rfl) ?_
              refine iInc4 dX3_readCondition_87 (winc (by omega)) ?_
              refine R_goto dX3_readCondition_90 ?_
              exact ihq (by omega) _ true false _ _ _ (((((hm.tr m2).tr (MvL.of o7)).tr m8.l).tr (MvL.of o10)).tr m11.l) t11 D11 (by omega) (fun _ => by omega) (fun q9 => nomatch q9) (fun _ q9 => nomatch q9) (by have e8 := hR; rw [hm9, cndL_o r2 a8 a11] at e8; rw [show 400 - (q + 1) = 399 - q by omega]; exact e8)
            · have a11 := of_decide_eq_false hb82
              rw [if_neg a11] at t11
              refine eqI2 (v := 0) (by rw [decide_eq_false a11]; rfl) ?_
              refine R_iconst_1 dX3_readCondition_85 ?_
              exact R_zret dX3_readCondition_86 rfl (by decide) (K _ _ (((((hm.tr m2).tr (MvL.of o7)).tr m8.l).tr (MvL.of o10)).tr m11.l) (Or.inl ⟨rfl, _, _, _, by rw [← hR, hm9]; exact cndL_e r2 a8 a11, t11, D11⟩))
    · rcases q2 with ⟨e2, u2, c2, k2, r2, T2, D2⟩ | ⟨e2, f2, r2, w2⟩
      · exfalso; omega
      refine R_iconst_0 dX3_readCondition_23 ?_
      exact R_zret dX3_readCondition_24 rfl (by decide) (K _ _ (hm.tr m2) (Or.inr ⟨rfl, _, by rw [← hR, hm9]; exact cndL_f r2, w2⟩))
set_option maxHeartbeats 1000000 in
theorem C_X3_readAtom_z {d : Nat} {g : Gs} {h : Hc} {P : Po} {X : Nat} {b : Nat → Int} {L N k : Nat} (hG : ClG g X) (hT : TpC h X b L N k) {u : Nat → Int} {n c : Nat} (hD : LwD h (X + 59) u n c) (hck : c ≤ k) {dp : Nat} (hdp : dp = 6) (K : ∀ h' (v : Int), MvL X h h' → PaC h' X b L N n v (atmL (thT b L) 0 u c k) → P (.inl (some (vI v))) g h') : Call (d + 4) 0 0 mX3_readAtom [vR (X + 72), vI ((dp : Nat) : Int)] g h P := by
  have hkN := hT.2.1
  have hN4 := hT.1
  refine Call_of rfl ⟨by decide +kernel, rfl⟩ (Nat.le_of_ble_eq_true rfl) rfl ?_
  refine aL0 dX3_readAtom_0 ?_
  refine R_getR dX3_readAtom_1 fX3_17 hG.lwt rfl ?_
  refine invV0 rfl dX3_readAtom_4 kX3_21 hG.tape (Nat.le_of_ble_eq_true rfl) (Nat.zero_le _) (Nat.zero_le _) (C_X8_here hG hT (konI ?_))
  refine iS2 dX3_readAtom_7 ?_
  refine iL2 dX3_readAtom_8 ?_
  refine R_sipush dX3_readAtom_9 (by decide) ?_
  refine R_icmp_eq dX3_readAtom_12 (fun hb12 => ?_) (fun hb12 => ?_)
  · have y0 := hT.lt (by omega)
    refine iL1 dX3_readAtom_22 ?_
    refine R_bipush dX3_readAtom_23 (by decide) ?_
    refine R_icmp_ge dX3_readAtom_25 (fun hb25 => ?_) (fun hb25 => ?_)
    · refine aL0 dX3_readAtom_39 ?_
      refine R_getR dX3_readAtom_40 fX3_17 hG.lwt rfl ?_
      refine invV0 rfl dX3_readAtom_43 kX3_52 hG.tape (Nat.le_of_ble_eq_true rfl) (Nat.zero_le _) (Nat.zero_le _) (C_X8_refuse hG hT (fun h1 m1 w1 => konI ?_))
      have D1 := hD.mv m1
      exact R_zret dX3_readAtom_46 rfl (by decide) (K _ _ m1.l (Or.inr ⟨rfl, k, atmL_z (by omega), w1⟩))
    · exfalso; omega
  · refine iL2 dX3_readAtom_15 ?_
    refine R_sipush dX3_readAtom_16 (by decide) ?_
    refine R_icmp_ne dX3_readAtom_19 (fun hb19 => ?_) (fun hb19 => ?_)
    · have g1 : ¬ thT b L k = 1023 := by omega
      have g2 : ¬ thT b L k = 2040 := by omega
      refine iL2 dX3_readAtom_112 ?_
      refine R_sipush dX3_readAtom_113 (by decide) ?_
      refine R_icmp_lt dX3_readAtom_116 (fun hb116 => ?_) (fun hb116 => ?_)
      · refine aL0 dX3_readAtom_154 ?_
        refine invV0 rfl dX3_readAtom_155 kX3_59 hG.lwt (Nat.le_of_ble_eq_true rfl) (Nat.zero_le _) (Nat.zero_le _) (C_X3_readComparison hG hT hD hck (fun h9 v9 m9 q9 => konI ?_))
        exact R_zret dX3_readAtom_158 rfl (q9.b) (K _ _ m9 (q9.of (by rw [atmL_0 g1 g2, atm0_c (by omega)])))
      · refine iL2 dX3_readAtom_119 ?_
        refine R_sipush dX3_readAtom_120 (by decide) ?_
        refine R_icmp_gt dX3_readAtom_123 (fun hb123 => ?_) (fun hb123 => ?_)
        · refine aL0 dX3_readAtom_154 ?_
          refine invV0 rfl dX3_readAtom_155 kX3_59 hG.lwt (Nat.le_of_ble_eq_true rfl) (Nat.zero_le _) (Nat.zero_le _) (C_X3_readComparison hG hT hD hck (fun h9 v9 m9 q9 => konI ?_))
          exact R_zret dX3_readAtom_158 rfl (q9.b) (K _ _ m9 (q9.of (by rw [atmL_0 g1 g2, atm0_c (by omega)])))
        · refine aL0 dX3_readAtom_126 ?_
          refine R_getR dX3_readAtom_127 fX3_17 hG.lwt rfl ?_
          refine iL2 dX3_readAtom_130 ?_
          refine invV1 rfl dX3_readAtom_131 kX3_35 hG.tape (Nat.le_of_ble_eq_true rfl) (Nat.zero_le _) (Nat.zero_le _) (C_X8_take hG hT (x := thT b L k) (by omega) (fun h2 m2 t2 => konI ?_))
          have D2 := hD.mv m2
          have y0 := hT.lt (by omega)
          refine R_ifB_eq dX3_readAtom_134 (fun hb134 => ?_) (fun hb134 => ?_)
          · exact absurd (decide_eq_true (p := thT b L k = thT b L k) rfl) (by rw [hb134]; decide)
          · rw [if_pos rfl] at t2
            refine aL0 dX3_readAtom_137 ?_
            refine R_getR dX3_readAtom_138 fX3_11.r hG.lwt rfl ?_
            refine iL2 dX3_readAtom_141 ?_
            refine invV1 rfl dX3_readAtom_142 kX3_49 hG.ru2.o (Nat.le_of_ble_eq_true rfl) (Nat.zero_le _) (Nat.zero_le _) (C_X2_add hG.ru2 D2 (a := thT b L k) (by omega) (fun h3 o3 D3 => konI ?_))
            have T3 := t2.ad o3
            refine R_if_eq dX3_readAtom_145 (fun hb => absurd hb (by decide)) (fun _ => ?_)
            refine R_iconst_1 dX3_readAtom_148 ?_
            refine R_goto dX3_readAtom_149 ?_
            exact R_zret dX3_readAtom_153 rfl (by decide) (K _ _ (m2.l.tr (MvL.of o3)) (Or.inl ⟨rfl, _, _, _, (atmL_0 g1 g2 _).trans (atm0_t (by omega)), T3, D3⟩))
    · have y0 := hT.lt (by omega)
      refine iL1 dX3_readAtom_22 ?_
      refine R_bipush dX3_readAtom_23 (by decide) ?_
      refine R_icmp_ge dX3_readAtom_25 (fun hb25 => ?_) (fun hb25 => ?_)
      · refine aL0 dX3_readAtom_39 ?_
        refine R_getR dX3_readAtom_40 fX3_17 hG.lwt rfl ?_
        refine invV0 rfl dX3_readAtom_43 kX3_52 hG.tape (Nat.le_of_ble_eq_true rfl) (Nat.zero_le _) (Nat.zero_le _) (C_X8_refuse hG hT (fun h4 m4 w4 => konI ?_))
        have D4 := hD.mv m4
        exact R_zret dX3_readAtom_46 rfl (by decide) (K _ _ m4.l (Or.inr ⟨rfl, k, atmL_z (by omega), w4⟩))
      · exfalso; omega
set_option maxHeartbeats 1000000 in
theorem C_X3_readAtom_s {d : Nat} {g : Gs} {h : Hc} {P : Po} {X : Nat} {b : Nat → Int} {L N k : Nat} (hG : ClG g X) (hT : TpC h X b L N k) {u : Nat → Int} {n c : Nat} (hD : LwD h (X + 59) u n c) (hck : c ≤ k) {r dp : Nat} (hA : AtC X b L r) (hC : CnC X b L r) (hdp : dp + (r + 1) = 6) (hd : 2 * (r + 1) + 4 ≤ d + 4) (K : ∀ h' (v : Int), MvL X h h' → PaC h' X b L N n v (atmL (thT b L) (r + 1) u c k) → P (.inl (some (vI v))) g h') : Call (d + 4) 0 0 mX3_readAtom [vR (X + 72), vI ((dp : Nat) : Int)] g h P := by
  have hkN := hT.2.1
  have hN4 := hT.1
  refine Call_of rfl ⟨by decide +kernel, rfl⟩ (Nat.le_of_ble_eq_true rfl) rfl ?_
  refine aL0 dX3_readAtom_0 ?_
  refine R_getR dX3_readAtom_1 fX3_17 hG.lwt rfl ?_
  refine invV0 rfl dX3_readAtom_4 kX3_21 hG.tape (Nat.le_of_ble_eq_true rfl) (Nat.zero_le _) (Nat.zero_le _) (C_X8_here hG hT (konI ?_))
  refine iS2 dX3_readAtom_7 ?_
  refine iL2 dX3_readAtom_8 ?_
  refine R_sipush dX3_readAtom_9 (by decide) ?_
  refine R_icmp_eq dX3_readAtom_12 (fun hb12 => ?_) (fun hb12 => ?_)
  · have y0 := hT.lt (by omega)
    refine iL1 dX3_readAtom_22 ?_
    refine R_bipush dX3_readAtom_23 (by decide) ?_
    refine R_icmp_ge dX3_readAtom_25 (fun hb25 => ?_) (fun hb25 => ?_)
    · exfalso; omega
    · refine aL0 dX3_readAtom_28 ?_
      refine R_getR dX3_readAtom_29 fX3_17 hG.lwt rfl ?_
      refine iL2 dX3_readAtom_32 ?_
      refine invV1 rfl dX3_readAtom_33 kX3_35 hG.tape (Nat.le_of_ble_eq_true rfl) (Nat.zero_le _) (Nat.zero_le _) (C_X8_take hG hT (x := thT b L k) (by omega) (fun h1 m1 t1 => konI ?_))
      have D1 := hD.mv m1
      refine R_ifB_ne dX3_readAtom_36 (fun hb36 => ?_) (fun hb36 => ?_)
      · rw [if_pos rfl] at t1
        refine iL2 dX3_readAtom_47 ?_
        refine R_sipush dX3_readAtom_48 (by decide) ?_
        refine R_icmp_ne dX3_readAtom_51 (fun hb51 => ?_) (fun hb51 => ?_)
        · have y1 := t1.2.1
          refine aL0 dX3_readAtom_83 ?_
          refine iL1 dX3_readAtom_84 ?_
          refine R_iconst_1 dX3_readAtom_85 ?_
          refine addV dX3_readAtom_86 (v := (((dp + 1) : Nat) : Int)) (by rw [wid (by omega) (by omega)]; omega) ?_
          refine invV1 rfl dX3_readAtom_87 kX3_46 hG.lwt (Nat.le_of_ble_eq_true rfl) (Nat.zero_le _) (Nat.zero_le _) (hA hG t1 D1 (by omega) (by omega) (by omega) (fun h2 v2 m2 q2 => konI ?_))
          refine R_if_eq dX3_readAtom_90 (fun hb90 => ?_) (fun hb90 => ?_)
          · rcases q2 with ⟨e2, u2, c2, k2, r2, T2, D2⟩ | ⟨e2, f2, r2, w2⟩
            · exfalso; omega
            refine R_iconst_0 dX3_readAtom_110 ?_
            exact R_zret dX3_readAtom_111 rfl (by decide) (K _ _ (m1.l.tr m2) (Or.inr ⟨rfl, _, atmL_nf (by omega) r2, w2⟩))
          · rcases q2 with ⟨e2, u2, c2, k2, r2, T2, D2⟩ | ⟨e2, f2, r2, w2⟩
            rotate_left
            · exfalso; omega
            obtain ⟨z1, z2, z3⟩ := atmL_le r _ _ _ _ _ _ r2
            have y3 := T2.2.1
            have y4 := T2.1
            refine aL0 dX3_readAtom_93 ?_
            refine R_getR dX3_readAtom_94 fX3_11.r hG.lwt rfl ?_
            refine R_sipush dX3_readAtom_97 (by decide) ?_
            refine invV1 rfl dX3_readAtom_100 kX3_49 hG.ru2.o (Nat.le_of_ble_eq_true rfl) (Nat.zero_le _) (Nat.zero_le _) (C_X2_add hG.ru2 D2 (a := 1023) (by omega) (fun h3 o3 D3 => konI ?_))
            have T3 := T2.ad o3
            refine R_if_eq dX3_readAtom_103 (fun hb => absurd hb (by decide)) (fun _ => ?_)
            refine R_iconst_1 dX3_readAtom_106 ?_
            refine R_goto dX3_readAtom_107 ?_
            exact R_zret dX3_readAtom_111 rfl (by decide) (K _ _ ((m1.l.tr m2).tr (MvL.of o3)) (Or.inl ⟨rfl, _, _, _, atmL_ny (by omega) r2, T3, D3⟩))
        · exfalso; omega
      · exact absurd (decide_eq_true (p := thT b L k = thT b L k) rfl) (by rw [hb36]; decide)
  · refine iL2 dX3_readAtom_15 ?_
    refine R_sipush dX3_readAtom_16 (by decide) ?_
    refine R_icmp_ne dX3_readAtom_19 (fun hb19 => ?_) (fun hb19 => ?_)
    · have g1 : ¬ thT b L k = 1023 := by omega
      have g2 : ¬ thT b L k = 2040 := by omega
      refine iL2 dX3_readAtom_112 ?_
      refine R_sipush dX3_readAtom_113 (by decide) ?_
      refine R_icmp_lt dX3_readAtom_116 (fun hb116 => ?_) (fun hb116 => ?_)
      · refine aL0 dX3_readAtom_154 ?_
        refine invV0 rfl dX3_readAtom_155 kX3_59 hG.lwt (Nat.le_of_ble_eq_true rfl) (Nat.zero_le _) (Nat.zero_le _) (C_X3_readComparison hG hT hD hck (fun h9 v9 m9 q9 => konI ?_))
        exact R_zret dX3_readAtom_158 rfl (q9.b) (K _ _ m9 (q9.of (by rw [atmL_0 g1 g2, atm0_c (by omega)])))
      · refine iL2 dX3_readAtom_119 ?_
        refine R_sipush dX3_readAtom_120 (by decide) ?_
        refine R_icmp_gt dX3_readAtom_123 (fun hb123 => ?_) (fun hb123 => ?_)
        · refine aL0 dX3_readAtom_154 ?_
          refine invV0 rfl dX3_readAtom_155 kX3_59 hG.lwt (Nat.le_of_ble_eq_true rfl) (Nat.zero_le _) (Nat.zero_le _) (C_X3_readComparison hG hT hD hck (fun h9 v9 m9 q9 => konI ?_))
          exact R_zret dX3_readAtom_158 rfl (q9.b) (K _ _ m9 (q9.of (by rw [atmL_0 g1 g2, atm0_c (by omega)])))
        · refine aL0 dX3_readAtom_126 ?_
          refine R_getR dX3_readAtom_127 fX3_17 hG.lwt rfl ?_
          refine iL2 dX3_readAtom_130 ?_
          refine invV1 rfl dX3_readAtom_131 kX3_35 hG.tape (Nat.le_of_ble_eq_true rfl) (Nat.zero_le _) (Nat.zero_le _) (C_X8_take hG hT (x := thT b L k) (by omega) (fun h4 m4 t4 => konI ?_))
          have D4 := hD.mv m4
          have y0 := hT.lt (by omega)
          refine R_ifB_eq dX3_readAtom_134 (fun hb134 => ?_) (fun hb134 => ?_)
          · exact absurd (decide_eq_true (p := thT b L k = thT b L k) rfl) (by rw [hb134]; decide)
          · rw [if_pos rfl] at t4
            refine aL0 dX3_readAtom_137 ?_
            refine R_getR dX3_readAtom_138 fX3_11.r hG.lwt rfl ?_
            refine iL2 dX3_readAtom_141 ?_
            refine invV1 rfl dX3_readAtom_142 kX3_49 hG.ru2.o (Nat.le_of_ble_eq_true rfl) (Nat.zero_le _) (Nat.zero_le _) (C_X2_add hG.ru2 D4 (a := thT b L k) (by omega) (fun h5 o5 D5 => konI ?_))
            have T5 := t4.ad o5
            refine R_if_eq dX3_readAtom_145 (fun hb => absurd hb (by decide)) (fun _ => ?_)
            refine R_iconst_1 dX3_readAtom_148 ?_
            refine R_goto dX3_readAtom_149 ?_
            exact R_zret dX3_readAtom_153 rfl (by decide) (K _ _ (m4.l.tr (MvL.of o5)) (Or.inl ⟨rfl, _, _, _, (atmL_0 g1 g2 _).trans (atm0_t (by omega)), T5, D5⟩))
    · have y0 := hT.lt (by omega)
      refine iL1 dX3_readAtom_22 ?_
      refine R_bipush dX3_readAtom_23 (by decide) ?_
      refine R_icmp_ge dX3_readAtom_25 (fun hb25 => ?_) (fun hb25 => ?_)
      · exfalso; omega
      · refine aL0 dX3_readAtom_28 ?_
        refine R_getR dX3_readAtom_29 fX3_17 hG.lwt rfl ?_
        refine iL2 dX3_readAtom_32 ?_
        refine invV1 rfl dX3_readAtom_33 kX3_35 hG.tape (Nat.le_of_ble_eq_true rfl) (Nat.zero_le _) (Nat.zero_le _) (C_X8_take hG hT (x := thT b L k) (by omega) (fun h6 m6 t6 => konI ?_))
        have D6 := hD.mv m6
        refine R_ifB_ne dX3_readAtom_36 (fun hb36 => ?_) (fun hb36 => ?_)
        · rw [if_pos rfl] at t6
          refine iL2 dX3_readAtom_47 ?_
          refine R_sipush dX3_readAtom_48 (by decide) ?_
          refine R_icmp_ne dX3_readAtom_51 (fun hb51 => ?_) (fun hb51 => ?_)
          · exfalso; omega
          · have y1 := t6.2.1
            refine aL0 dX3_readAtom_54 ?_
            refine iL1 dX3_readAtom_55 ?_
            refine R_iconst_1 dX3_readAtom_56 ?_
            refine addV dX3_readAtom_57 (v := (((dp + 1) : Nat) : Int)) (by rw [wid (by omega) (by omega)]; omega) ?_
            refine invV1 rfl dX3_readAtom_58 kX3_39 hG.lwt (Nat.le_of_ble_eq_true rfl) (Nat.zero_le _) (Nat.zero_le _) (hC hG t6 D6 (by omega) (by omega) (by omega) (fun h7 v7 m7 q7 => konI ?_))
            refine R_if_eq dX3_readAtom_61 (fun hb61 => ?_) (fun hb61 => ?_)
            · rcases q7 with ⟨e7, u7, c7, k7, r7, T7, D7⟩ | ⟨e7, f7, r7, w7⟩
              · exfalso; omega
              refine R_iconst_0 dX3_readAtom_81 ?_
              exact R_zret dX3_readAtom_82 rfl (by decide) (K _ _ (m6.l.tr m7) (Or.inr ⟨rfl, _, atmL_of (by omega) r7, w7⟩))
            · rcases q7 with ⟨e7, u7, c7, k7, r7, T7, D7⟩ | ⟨e7, f7, r7, w7⟩
              rotate_left
              · exfalso; omega
              refine aL0 dX3_readAtom_64 ?_
              refine R_getR dX3_readAtom_65 fX3_17 hG.lwt rfl ?_
              refine R_sipush dX3_readAtom_68 (by decide) ?_
              refine invV1 rfl dX3_readAtom_71 kX3_56 hG.tape (Nat.le_of_ble_eq_true rfl) (Nat.zero_le _) (Nat.zero_le _) (C_X8_need hG T7 (x := 2041) (by decide) (fun h8 v8 m8 q8 => konI ?_))
              have D8 := D7.mv m8
              refine R_if_eq dX3_readAtom_74 (fun hb74 => ?_) (fun hb74 => ?_)
              · rcases q8 with ⟨a8, b8, T8⟩ | ⟨a8, b8, w8⟩
                · exfalso; omega
                refine R_iconst_0 dX3_readAtom_81 ?_
                exact R_zret dX3_readAtom_82 rfl (by decide) (K _ _ ((m6.l.tr m7).tr m8.l) (Or.inr ⟨rfl, _, atmL_on (by omega) r7 a8, w8⟩))
              · rcases q8 with ⟨a8, b8, T8⟩ | ⟨a8, b8, w8⟩
                rotate_left
                · exfalso; omega
                refine R_iconst_1 dX3_readAtom_77 ?_
                refine R_goto dX3_readAtom_78 ?_
                exact R_zret dX3_readAtom_82 rfl (by decide) (K _ _ ((m6.l.tr m7).tr m8.l) (Or.inl ⟨rfl, _, _, _, atmL_oy (by omega) r7 a8, T8, D8⟩))
        · exact absurd (decide_eq_true (p := thT b L k = thT b L k) rfl) (by rw [hb36]; decide)
theorem CnC_of {X : Nat} {b : Nat → Int} {L r : Nat} (hA : AtC X b L r) : CnC X b L r := by
  intro d g h P N k u n c dp hG hT hD hck hdp hd K
  obtain ⟨d, rfl⟩ : ∃ d', d = d' + 5 := ⟨d - 5, by omega⟩
  exact C_X3_readCondition hG hT hD hck hA hdp hd K
theorem AtC_all (X : Nat) (b : Nat → Int) (L : Nat) : ∀ r, AtC X b L r := by
  intro r
  induction r with
  | zero =>
    intro d g h P N k u n c dp hG hT hD hck hdp hd K
    obtain ⟨d, rfl⟩ : ∃ d', d = d' + 4 := ⟨d - 4, by omega⟩
    exact C_X3_readAtom_z hG hT hD hck hdp K
  | succ r ih =>
    intro d g h P N k u n c dp hG hT hD hck hdp hd K
    obtain ⟨d, rfl⟩ : ∃ d', d = d' + 4 := ⟨d - 4, by omega⟩
    exact C_X3_readAtom_s hG hT hD hck ih (CnC_of ih) hdp hd K
theorem C_cond6 {d : Nat} {g : Gs} {h : Hc} {P : Po} {X : Nat} {b : Nat → Int} {L N k : Nat} {u : Nat → Int} {n c : Nat} (hG : ClG g X) (hT : TpC h X b L N k) (hD : LwD h (X + 59) u n c) (hck : c ≤ k) (hd : 17 ≤ d) (K : ∀ h' (v : Int), MvL X h h' → PaC h' X b L N n v (cndL (thT b L) (atmL (thT b L) 6) 400 false false u c k) → P (.inl (some (vI v))) g h') : Call d 0 0 mX3_readCondition [vR (X + 72), vI 0] g h P := by
  exact @CnC_of X b L 6 (AtC_all X b L 6) d g h P N k u n c 0 hG hT hD hck (by omega) (by omega) K
set_option maxHeartbeats 1000000 in
theorem C_X3_readLine {d : Nat} {g : Gs} {h : Hc} {P : Po} {X : Nat} {b : Nat → Int} {L N k : Nat} (hG : ClG g X) (hT : TpC h X b L N k) {u : Nat → Int} {n c : Nat} (hD : LwD h (X + 59) u n c) (hck : c ≤ k) (hn : n < 12) (K : ∀ h' (v : Int), MvL X h h' → PaC h' X b L N (n + 1) v (lawLn (thT b L) u n c k) → P (.inl (some (vI v))) g h') : Call (d + 18) 0 0 mX3_readLine [vR (X + 72)] g h P := by
  have hkN := hT.2.1
  have hN4 := hT.1
  refine Call_of rfl ⟨by decide +kernel, rfl⟩ (Nat.le_of_ble_eq_true rfl) rfl ?_
  refine aL0 dX3_readLine_0 ?_
  refine R_getR dX3_readLine_1 fX3_17 hG.lwt rfl ?_
  refine invV0 rfl dX3_readLine_4 kX3_21 hG.tape (Nat.le_of_ble_eq_true rfl) (Nat.zero_le _) (Nat.zero_le _) (C_X8_here hG hT (konI ?_))
  refine iS1 dX3_readLine_7 ?_
  refine aL0 dX3_readLine_8 ?_
  refine R_getR dX3_readLine_9 fX3_17 hG.lwt rfl ?_
  refine R_sipush dX3_readLine_12 (by decide) ?_
  refine R_sipush dX3_readLine_15 (by decide) ?_
  refine invV2 rfl dX3_readLine_18 kX3_27 hG.tape (Nat.le_of_ble_eq_true rfl) (Nat.zero_le _) (Nat.zero_le _) (C_X8_needFrom hG hT (lo := 1017) (hi := 1019) (by decide) (by decide) (fun h1 v1 m1 q1 => konI ?_))
  have D1 := hD.mv m1
  refine R_if_ge dX3_readLine_21 (fun hb21 => ?_) (fun hb21 => ?_)
  · obtain ⟨b1, k1, T1, r1⟩ := q1.yes (by omega)
    obtain ⟨xa, x3, x4⟩ := rdN_inv r1
    subst x4
    have x5 : v1 = thT b L k - 1017 := by omega
    subst x5
    have y1 := T1.2.1
    have y0 := T1.1
    refine aL0 dX3_readLine_26 ?_
    refine R_getR dX3_readLine_27 fX3_17 hG.lwt rfl ?_
    refine R_bipush dX3_readLine_30 (by decide) ?_
    refine invV1 rfl dX3_readLine_32 kX3_31 hG.tape (Nat.le_of_ble_eq_true rfl) (Nat.zero_le _) (Nat.zero_le _) (C_X8_needNumber hG T1 (hi := 99) (fun h2 v2 m2 q2 => konI ?_))
    have D2 := D1.mv m2
    refine iS2 dX3_readLine_35 ?_
    refine iL2 dX3_readLine_36 ?_
    refine R_if_lt dX3_readLine_37 (fun hb37 => ?_) (fun hb37 => ?_)
    · obtain ⟨b2, f2, w2, r2⟩ := q2.no (by omega)
      obtain ⟨xb, x2⟩ := rdN_inf r2
      subst x2
      refine R_iconst_0 dX3_readLine_61 ?_
      exact R_zret dX3_readLine_62 rfl (by decide) (K _ _ (m1.l.tr m2.l) (Or.inr ⟨rfl, _, lawLn_a xa xb, w2⟩))
    · obtain ⟨b2, k2, T2, r2⟩ := q2.yes (by omega)
      obtain ⟨xb, x3, x4⟩ := rdN_inv r2
      subst x4
      have x5 : v2 = thT b L (k + 1) := by omega
      subst x5
      have y2 := T2.2.1
      have y0 := T2.1
      refine aL0 dX3_readLine_40 ?_
      refine R_getR dX3_readLine_41 fX3_17 hG.lwt rfl ?_
      refine R_sipush dX3_readLine_44 (by decide) ?_
      refine invV1 rfl dX3_readLine_47 kX3_35 hG.tape (Nat.le_of_ble_eq_true rfl) (Nat.zero_le _) (Nat.zero_le _) (C_X8_take hG T2 (x := 1020) (by decide) (fun h3 m3 t3 => konI ?_))
      have D3 := D2.mv m3
      refine R_ifB_eq dX3_readLine_50 (fun hb50 => ?_) (fun hb50 => ?_)
      · have a3 := of_decide_eq_false hb50
        rw [if_neg a3] at t3
        refine aL0 dX3_readLine_63 ?_
        refine R_getR dX3_readLine_64 fX3_11.r hG.lwt rfl ?_
        refine iL1 dX3_readLine_67 ?_
        refine iL2 dX3_readLine_68 ?_
        refine invV2 rfl dX3_readLine_69 kX3_42 hG.ru2.o (Nat.le_of_ble_eq_true rfl) (Nat.zero_le _) (Nat.zero_le _) (C_X2_closeLine hG.ru2 D3 (by omega) hn (fun h4 o4 D4 => konV ?_))
        have T4 := t3.ad o4
        refine R_iconst_1 dX3_readLine_72 ?_
        exact R_zret dX3_readLine_73 rfl (by decide) (K _ _ (((m1.l.tr m2.l).tr m3.l).tr (MvL.of o4)) (Or.inl ⟨rfl, _, _, _, lawLn_y xa xb a3, T4, D4⟩))
      · have a3 := of_decide_eq_true hb50
        rw [if_pos a3] at t3
        refine aL0 dX3_readLine_53 ?_
        refine R_iconst_0 dX3_readLine_54 ?_
        refine invV1 rfl dX3_readLine_55 kX3_39 hG.lwt (Nat.le_of_ble_eq_true rfl) (Nat.zero_le _) (Nat.zero_le _) (C_cond6 hG t3 D3 (by omega) (by omega) (fun h5 v5 m5 q5 => konI ?_))
        refine R_if_ne dX3_readLine_58 (fun hb58 => ?_) (fun hb58 => ?_)
        · rcases q5 with ⟨e5, u5, c5, k5, r5, T5, D5⟩ | ⟨e5, f5, r5, w5⟩
          rotate_left
          · exfalso; omega
          obtain ⟨z1, z2, z3⟩ := cndL_le (atmL_le 6) _ _ _ _ _ _ r5
          have z4 : emC 0 false = 0 := rfl
          have y5 := T5.2.1
          refine aL0 dX3_readLine_63 ?_
          refine R_getR dX3_readLine_64 fX3_11.r hG.lwt rfl ?_
          refine iL1 dX3_readLine_67 ?_
          refine iL2 dX3_readLine_68 ?_
          refine invV2 rfl dX3_readLine_69 kX3_42 hG.ru2.o (Nat.le_of_ble_eq_true rfl) (Nat.zero_le _) (Nat.zero_le _) (C_X2_closeLine hG.ru2 D5 (by omega) hn (fun h6 o6 D6 => konV ?_))
          have T6 := T5.ad o6
          refine R_iconst_1 dX3_readLine_72 ?_
          exact R_zret dX3_readLine_73 rfl (by decide) (K _ _ ((((m1.l.tr m2.l).tr m3.l).tr m5).tr (MvL.of o6)) (Or.inl ⟨rfl, _, _, _, lawLn_iy xa xb a3 r5, T6, D6⟩))
        · rcases q5 with ⟨e5, u5, c5, k5, r5, T5, D5⟩ | ⟨e5, f5, r5, w5⟩
          · exfalso; omega
          refine R_iconst_0 dX3_readLine_61 ?_
          exact R_zret dX3_readLine_62 rfl (by decide) (K _ _ (((m1.l.tr m2.l).tr m3.l).tr m5) (Or.inr ⟨rfl, _, lawLn_if xa xb a3 r5, w5⟩))
  · obtain ⟨b1, f1, w1, r1⟩ := q1.no (by omega)
    obtain ⟨xa, x2⟩ := rdN_inf r1
    subst x2
    refine R_iconst_0 dX3_readLine_24 ?_
    exact R_zret dX3_readLine_25 rfl (by decide) (K _ _ m1.l (Or.inr ⟨rfl, _, lawLn_n xa, w1⟩))
