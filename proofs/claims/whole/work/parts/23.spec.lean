/-! SPEC: plain functions of the row w -/
/-- the set of those below n of which p holds, as bits -/
def bset (p : Nat → Bool) : Nat → Int := foldN (fun c acc => if p c then orI acc (shlI 1 (c : Int)) else acc) 0
theorem bset_0 (p : Nat → Bool) : bset p 0 = 0 := rfl
theorem bset_t {p : Nat → Bool} {n : Nat} (h : p n = true) : bset p (n + 1) = orI (bset p n) (shlI 1 (n : Int)) := by simp [bset, foldN_s, h]
theorem bset_f {p : Nat → Bool} {n : Nat} (h : p n = false) : bset p (n + 1) = bset p n := by simp [bset, foldN_s, h]
theorem bset_cong {p q : Nat → Bool} {n : Nat} (h : ∀ k, k < n → p k = q k) : bset p n = bset q n := foldN_cong (fun k hk x => by rw [h k hk])
theorem in32_bset (p : Nat → Bool) : ∀ n, in32 (bset p n)
  | 0 => by rw [bset_0]; unfold in32; omega
  | n + 1 => by
    cases h : p n
    · rw [bset_f h]; exact in32_bset p n
    · rw [bset_t h]; exact in32_toInt _
theorem orI_0 {a : Int} (h : in32 a) : orI a 0 = a := by
  unfold orI
  rw [show Int32.ofInt 0 = 0 from rfl, Int32.or_zero]
  exact toInt_ofInt32 h
/-- how many -/
def cntB (p : Nat → Bool) : Nat → Nat := foldN (fun c a => if p c then a + 1 else a) 0
theorem cntB_0 (p : Nat → Bool) : cntB p 0 = 0 := rfl
theorem cntB_t {p : Nat → Bool} {n : Nat} (h : p n = true) : cntB p (n + 1) = cntB p n + 1 := by simp [cntB, foldN_s, h]
theorem cntB_f {p : Nat → Bool} {n : Nat} (h : p n = false) : cntB p (n + 1) = cntB p n := by simp [cntB, foldN_s, h]
theorem cntB_le (p : Nat → Bool) : ∀ n, cntB p n ≤ n
  | 0 => Nat.le_refl _
  | n + 1 => by
    have := cntB_le p n
    cases h : p n
    · rw [cntB_f h]; omega
    · rw [cntB_t h]; omega
theorem cntB_cong {p q : Nat → Bool} {n : Nat} (h : ∀ k, k < n → p k = q k) : cntB p n = cntB q n := foldN_cong (fun k hk x => by rw [h k hk])
/-- the first below n of which p holds; -1 -/
def firstB (p : Nat → Bool) : Nat → Int := foldN (fun c a => if a = -1 then (if p c then (c : Int) else -1) else a) (-1)
theorem firstB_no {p : Nat → Bool} : ∀ {n : Nat}, (∀ k, k < n → p k = false) → firstB p n = -1
  | 0, _ => rfl
  | n + 1, h => by
    have := firstB_no (p := p) (n := n) (fun k hk => h k (by omega))
    simp [firstB, foldN_s] at this ⊢
    simp [this, h n (Nat.lt_succ_self n)]
theorem firstB_at {p : Nat → Bool} {k : Nat} (hk : p k = true) (h : ∀ j, j < k → p j = false) : ∀ {n : Nat}, k < n → firstB p n = (k : Int)
  | 0, q => absurd q (Nat.not_lt_zero _)
  | n + 1, q => by
    by_cases e : k = n
    · subst e
      have := firstB_no h
      simp [firstB, foldN_s] at this ⊢
      simp [this, hk]
    · have := firstB_at hk h (n := n) (by omega)
      simp only [firstB, foldN_s] at this ⊢
      rw [this, if_neg (by omega)]
theorem firstB_rng (p : Nat → Bool) (n : Nat) : firstB p n = -1 ∨ ∃ k, k < n ∧ firstB p n = (k : Int) ∧ p k = true ∧ ∀ j, j < k → p j = false := by
  induction n with
  | zero => exact Or.inl rfl
  | succ n ih =>
    rcases ih with e | ⟨k, h1, h2, h3, h4⟩
    · have key : ∀ m, m ≤ n → firstB p m = -1 → ∀ j, j < m → p j = false := by
        intro m
        induction m with
        | zero => intro _ _ j hj; omega
        | succ m ihm =>
          intro hm em j hj
          simp only [firstB, foldN_s] at em
          by_cases q : foldN (fun c a => if a = -1 then (if p c then (c : Int) else -1) else a) (-1) m = -1
          · rw [if_pos q] at em
            by_cases e2 : j = m
            · subst e2
              cases hp : p j
              · rfl
              · rw [hp, if_pos rfl] at em; omega
            · exact ihm (by omega) q j (by omega)
          · rw [if_neg q] at em
            exact absurd em q
      have hall := key n (Nat.le_refl _) e
      cases hp : p n
      · exact Or.inl (firstB_no (fun k hk => by
          by_cases e2 : k = n
          · rw [e2]; exact hp
          · exact hall k (by omega)))
      · exact Or.inr ⟨n, Nat.lt_succ_self n, firstB_at hp hall (Nat.lt_succ_self n), hp, hall⟩
    · exact Or.inr ⟨k, by omega, firstB_at h3 h4 (by omega), h3, h4⟩
/-- cases in a state -/
def inStP (w : Nat → Int) (s : Int) (c : Nat) : Bool := decide (w (104 + 7 * c) = s)
def inSt (w : Nat → Int) (s : Int) : Int := bset (inStP w s) (w 1).toNat
/-- the case that stands there and waits -/
def waitAt (w : Nat → Int) (j k : Nat) : Int := if 0 ≤ w (20 + (12 * j + k)) then (if w (104 + 7 * (w (20 + (12 * j + k))).toNat) = 0 then w (20 + (12 * j + k)) else -1) else -1
/-- where a case stands in the list -/
def placeP (w : Nat → Int) (c : Int) (p : Nat) : Bool := decide (w (20 + p) = c)
def placeOf (w : Nat → Int) (c : Int) : Int := firstB (placeP w c) 60
def freeHP (w : Nat → Int) (j k : Nat) : Bool := decide (w (20 + (12 * j + k)) < 0)
def freeHrs (w : Nat → Int) (j : Nat) : Int := bset (freeHP w j) 12
