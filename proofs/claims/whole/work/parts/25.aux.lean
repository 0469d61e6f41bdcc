/-! small rows for the second walker; the row w changed; the law's evaluation as a plain stack machine -/
def bI (b : Bool) : Int := if b then 1 else 0
theorem bI01 (b : Bool) : bI b = 0 ∨ bI b = 1 := by cases b <;> simp [bI]
theorem bI_t {b : Bool} (h : b = true) : bI b = 1 := by subst h; rfl
theorem bI_f {b : Bool} (h : b = false) : bI b = 0 := by subst h; rfl
theorem bI_1 {b : Bool} : bI b = 1 ↔ b = true := by cases b <;> simp [bI]
theorem bI_0 {b : Bool} : bI b = 0 ↔ b = false := by cases b <;> simp [bI]
theorem bitB {s : Int} {c : Nat} (hc : c < 32) : andI (shrI s (c : Int)) 1 = bI (tb s c) := bitT hc
section
variable {d kc ks : Nat} {y : Mth} {pc n t : Nat} {ls st : List AV} {g : Gs} {h : Hc} {P : Po}
theorem R_ifB_eq {b : Bool} (hd : DI y pc (Instr.ifCond .eq) n t) (KT : b = false → Run d kc ks y t ls st g h P) (KF : b = true → Run d kc ks y n ls st g h P) : Run d kc ks y pc ls (vI (bI b) :: st) g h P :=
  R_if_eq hd (fun e => KT (bI_0.mp e)) (fun e => KF (by cases b <;> first | rfl | exact absurd rfl e))
theorem R_ifB_ne {b : Bool} (hd : DI y pc (Instr.ifCond .ne) n t) (KT : b = true → Run d kc ks y t ls st g h P) (KF : b = false → Run d kc ks y n ls st g h P) : Run d kc ks y pc ls (vI (bI b) :: st) g h P :=
  R_if_ne hd (fun e => KT (by cases b <;> first | rfl | exact absurd rfl e)) (fun e => KF (bI_0.mp e))
end
theorem divN {a k : Nat} (ha : a < 2147483648) (hk : 0 < k) : wrap ((a : Int).tdiv (k : Int)) = ((a / k : Nat) : Int) := by
  rw [Int.tdiv_eq_ediv_of_nonneg (by omega)]
  have h0 := Nat.div_le_self a k
  show wrap ((a / k : Nat) : Int) = _
  generalize a / k = q at *
  exact wid (by omega) (by omega)
theorem remN {a k : Nat} (_ : a < 2147483648) (_ : 0 < k) : (a : Int).tmod (k : Int) = ((a % k : Nat) : Int) := rfl
theorem divI {a k : Int} (h0 : 0 ≤ a) (ha : a ≤ 2147483647) (hk : 0 < k) : wrap (a.tdiv k) = a / k := by
  rw [Int.tdiv_eq_ediv_of_nonneg h0]
  have h1 : 0 ≤ a / k := Int.ediv_nonneg h0 (by omega)
  have h2 := Int.ediv_le_self k h0
  exact wid (by omega) (by omega)
theorem remI {a k : Int} (h0 : 0 ≤ a) (_ : a ≤ 2147483647) (_ : 0 < k) : a.tmod k = a % k := Int.tmod_eq_emod_of_nonneg h0
/-- a row changed at one place -/
def updW (w : Nat → Int) (i : Nat) (v : Int) : Nat → Int := fun j => if j = i then v else w j
theorem updW_s (w : Nat → Int) (i : Nat) (v : Int) : updW w i v i = v := by simp [updW]
theorem updW_n {w : Nat → Int} {i j : Nat} {v : Int} (h : j ≠ i) : updW w i v j = w j := by simp [updW, h]
theorem updH_r (h : Hc) (a i : Nat) (v : Int) : updH h a i v a = updW (h a) i v := by funext j; simp [updH, updW]
/-- the first from k on, below n, of which p holds; -1 -/
def ffG (p : Nat → Bool) (n : Nat) : Nat → Nat → Int
  | 0, _ => -1
  | q + 1, k => if p k then (k : Int) else ffG p n q (k + 1)
def ff (p : Nat → Bool) (k n : Nat) : Int := ffG p n (n - k) k
theorem ff_end {p : Nat → Bool} {k n : Nat} (h : n ≤ k) : ff p k n = -1 := by
  unfold ff
  rw [show n - k = 0 by omega]
  rfl
theorem ff_t {p : Nat → Bool} {k n : Nat} (h : k < n) (hp : p k = true) : ff p k n = (k : Int) := by
  unfold ff
  rw [show n - k = (n - k - 1) + 1 by omega]
  simp [ffG, hp]
theorem ff_f {p : Nat → Bool} {k n : Nat} (h : k < n) (hp : p k = false) : ff p k n = ff p (k + 1) n := by
  unfold ff
  rw [show n - k = (n - (k + 1)) + 1 by omega]
  simp [ffG, hp]
theorem ff_cong {p q : Nat → Bool} {n : Nat} : ∀ {m k : Nat}, n - k = m → (∀ j, k ≤ j → j < n → p j = q j) → ff p k n = ff q k n := by
  intro m
  induction m with
  | zero => intro k h _; rw [ff_end (by omega), ff_end (by omega)]
  | succ m ih =>
    intro k h hq
    have e := hq k (Nat.le_refl _) (by omega)
    cases hp : p k
    · rw [ff_f (p := p) (by omega) hp, ff_f (p := q) (k := k) (by omega) (by rw [← e]; exact hp), ih (by omega) (fun j h1 h2 => hq j (by omega) h2)]
    · rw [ff_t (p := p) (by omega) hp, ff_t (p := q) (k := k) (by omega) (by rw [← e]; exact hp)]
theorem ff_rng {p : Nat → Bool} {n : Nat} : ∀ {m k : Nat}, n - k = m → ff p k n = -1 ∨ ∃ j : Nat, k ≤ j ∧ j < n ∧ ff p k n = (j : Int) ∧ p j = true := by
  intro m
  induction m with
  | zero => intro k h; exact Or.inl (ff_end (by omega))
  | succ m ih =>
    intro k h
    cases hp : p k
    · rw [ff_f (by omega) hp]
      rcases ih (k := k + 1) (by omega) with e | ⟨j, h1, h2, h3, h4⟩
      · exact Or.inl e
      · exact Or.inr ⟨j, by omega, h2, h3, h4⟩
    · exact Or.inr ⟨k, Nat.le_refl _, by omega, ff_t (by omega) hp, hp⟩
theorem WF.hu {w : Nat → Int} (h : WF w) {j : Nat} (hj : j < 5) : 0 ≤ w (80 + 4 * j) ∧ w (80 + 4 * j) ≤ 99 := (h.jof j hj).1
theorem WF.me {w : Nat → Int} (h : WF w) {j : Nat} (hj : j < 5) : 0 ≤ w (81 + 4 * j) ∧ w (81 + 4 * j) ≤ 99 := (h.jof j hj).2.1
theorem WF.nv {w : Nat → Int} (h : WF w) {j : Nat} (hj : j < 5) : 0 ≤ w (82 + 4 * j) ∧ w (82 + 4 * j) ≤ 9 := (h.jof j hj).2.2.1
theorem WF.py {w : Nat → Int} (h : WF w) {j : Nat} (hj : j < 5) : 0 ≤ w (83 + 4 * j) ∧ w (83 + 4 * j) ≤ 99 := (h.jof j hj).2.2.2
theorem WF.ki {w : Nat → Int} (h : WF w) {c : Nat} (hc : c < 8) : 0 ≤ w (100 + 7 * c) ∧ w (100 + 7 * c) ≤ 5 := (h.cof c hc).1
theorem WF.gr {w : Nat → Int} (h : WF w) {c : Nat} (hc : c < 8) : 0 ≤ w (101 + 7 * c) ∧ w (101 + 7 * c) ≤ 99 := (h.cof c hc).2.1
theorem WF.wo {w : Nat → Int} (h : WF w) {c : Nat} (hc : c < 8) : 0 ≤ w (102 + 7 * c) ∧ w (102 + 7 * c) ≤ 99 := (h.cof c hc).2.2.1
theorem WF.on {w : Nat → Int} (h : WF w) {c : Nat} (hc : c < 8) : -1 ≤ w (103 + 7 * c) ∧ w (103 + 7 * c) < 8 := (h.cof c hc).2.2.2.1
theorem WF.st {w : Nat → Int} (h : WF w) {c : Nat} (hc : c < 8) : 0 ≤ w (104 + 7 * c) ∧ w (104 + 7 * c) ≤ 3 := (h.cof c hc).2.2.2.2.1
theorem WF.by_ {w : Nat → Int} (h : WF w) {c : Nat} (hc : c < 8) : -1 ≤ w (105 + 7 * c) ∧ w (105 + 7 * c) ≤ 4 := (h.cof c hc).2.2.2.2.2.1
theorem WF.dy {w : Nat → Int} (h : WF w) {c : Nat} (hc : c < 8) : -1 ≤ w (106 + 7 * c) ∧ w (106 + 7 * c) ≤ 9999 := (h.cof c hc).2.2.2.2.2.2
/-! THE LAW -/
def stepL (F : Nat → Int) (c n : Int) (s : List Int) : Option (List Int) :=
  if c ≤ 10 then (if s.length < 32 then some ((if c = 10 then n else F c.toNat) :: s) else none)
  else match s with
    | [] => none
    | b :: t =>
      if c = 14 then (if b = 0 ∨ b = 1 then some ((1 - b) :: t) else none)
      else match t with
        | [] => none
        | a :: r =>
          if c = 11 then (if (0 ≤ a ∧ 0 ≤ b) ∧ a + b ≤ 1000000 then some ((a + b) :: r) else none)
          else if c = 12 then some ((if a < b then 1 else 0) :: r)
          else if c = 13 then some ((if b < a then 1 else 0) :: r)
          else if (a = 0 ∨ a = 1) ∧ (b = 0 ∨ b = 1) then (if c = 15 then some ((if a = 1 ∧ b = 1 then 1 else 0) :: r) else if c = 16 then some ((if a = 1 ∨ b = 1 then 1 else 0) :: r) else none)
          else none
def runL (F : Nat → Int) (w : Nat → Int) : Nat → Nat → List Int → Option (List Int)
  | _, 0, s => some s
  | i, k + 1, s => match stepL F (w (565 + 2 * i)) (w (566 + 2 * i)) s with
    | some s2 => runL F w (i + 1) k s2
    | none => none
theorem runL_s {F w : Nat → Int} {i k : Nat} {s fin : List Int} (h : runL F w i (k + 1) s = some fin) : ∃ s2, stepL F (w (565 + 2 * i)) (w (566 + 2 * i)) s = some s2 ∧ runL F w (i + 1) k s2 = some fin := by
  unfold runL at h
  cases e : stepL F (w (565 + 2 * i)) (w (566 + 2 * i)) s with
  | none => rw [e] at h; cases h
  | some s2 => rw [e] at h; exact ⟨s2, rfl, h⟩
theorem stepL_c {F : Nat → Int} {c n : Int} {s s2 : List Int} (h : stepL F c n s = some s2) :
    (c ≤ 10 ∧ s.length < 32 ∧ s2 = (if c = 10 then n else F c.toNat) :: s) ∨
    (c = 14 ∧ ∃ b t, s = b :: t ∧ (b = 0 ∨ b = 1) ∧ s2 = (1 - b) :: t) ∨
    (∃ a b r, s = b :: a :: r ∧ ((c = 11 ∧ ((0 ≤ a ∧ 0 ≤ b) ∧ a + b ≤ 1000000) ∧ s2 = (a + b) :: r) ∨ (c = 12 ∧ s2 = (if a < b then 1 else 0) :: r) ∨ (c = 13 ∧ s2 = (if b < a then 1 else 0) :: r) ∨
      (c = 15 ∧ ((a = 0 ∨ a = 1) ∧ (b = 0 ∨ b = 1)) ∧ s2 = (if a = 1 ∧ b = 1 then 1 else 0) :: r) ∨ (c = 16 ∧ ((a = 0 ∨ a = 1) ∧ (b = 0 ∨ b = 1)) ∧ s2 = (if a = 1 ∨ b = 1 then 1 else 0) :: r))) := by
  unfold stepL at h
  by_cases h1 : c ≤ 10
  · rw [if_pos h1] at h
    by_cases h2 : s.length < 32
    · rw [if_pos h2] at h
      exact Or.inl ⟨h1, h2, (Option.some.inj h).symm⟩
    · rw [if_neg h2] at h; cases h
  · rw [if_neg h1] at h
    cases s with
    | nil => cases h
    | cons b t =>
      dsimp only at h
      by_cases h3 : c = 14
      · rw [if_pos h3] at h
        by_cases h4 : b = 0 ∨ b = 1
        · rw [if_pos h4] at h
          exact Or.inr (Or.inl ⟨h3, b, t, rfl, h4, (Option.some.inj h).symm⟩)
        · rw [if_neg h4] at h; cases h
      · rw [if_neg h3] at h
        cases t with
        | nil => cases h
        | cons a r =>
          dsimp only at h
          refine Or.inr (Or.inr ⟨a, b, r, rfl, ?_⟩)
          by_cases h5 : c = 11
          · rw [if_pos h5] at h
            by_cases h6 : (0 ≤ a ∧ 0 ≤ b) ∧ a + b ≤ 1000000
            · rw [if_pos h6] at h
              exact Or.inl ⟨h5, h6, (Option.some.inj h).symm⟩
            · rw [if_neg h6] at h; cases h
          · rw [if_neg h5] at h
            by_cases h7 : c = 12
            · rw [if_pos h7] at h
              exact Or.inr (Or.inl ⟨h7, (Option.some.inj h).symm⟩)
            · rw [if_neg h7] at h
              by_cases h8 : c = 13
              · rw [if_pos h8] at h
                exact Or.inr (Or.inr (Or.inl ⟨h8, (Option.some.inj h).symm⟩))
              · rw [if_neg h8] at h
                by_cases h9 : (a = 0 ∨ a = 1) ∧ (b = 0 ∨ b = 1)
                · rw [if_pos h9] at h
                  by_cases h10 : c = 15
                  · rw [if_pos h10] at h
                    exact Or.inr (Or.inr (Or.inr (Or.inl ⟨h10, h9, (Option.some.inj h).symm⟩)))
                  · rw [if_neg h10] at h
                    by_cases h11 : c = 16
                    · rw [if_pos h11] at h
                      exact Or.inr (Or.inr (Or.inr (Or.inr ⟨h11, h9, (Option.some.inj h).symm⟩)))
                    · rw [if_neg h11] at h; cases h
                · rw [if_neg h9] at h; cases h
/-- what is so of a judge and a case, or of a judge alone (c = -1) -/
def leanB (w : Nat → Int) (c : Int) : Bool := decide (0 ≤ c) && decide (0 ≤ w (103 + 7 * c.toNat))
def precB (w : Nat → Int) (c : Int) : Bool := leanB w c && decide (w (104 + 7 * (w (103 + 7 * c.toNat)).toNat) = 1)
def factW (w : Nat → Int) (j : Nat) (c hr hu gr : Int) : Nat → Int
  | 0 => j
  | 1 => hu
  | 2 => w (82 + 4 * j)
  | 3 => if 0 ≤ c then w (100 + 7 * c.toNat) else 6
  | 4 => if 0 ≤ c then gr else 0
  | 5 => if 0 ≤ c then w (102 + 7 * c.toNat) else 0
  | 6 => hr
  | 7 => bI (leanB w c)
  | 8 => bI (precB w c)
  | 9 => bI (decide (6 ≤ hr))
  | _ => 0
def okF (F : Nat → Int) : Prop := (∀ k, 0 ≤ F k ∧ F k ≤ 1000) ∧ (F 7 = 0 ∨ F 7 = 1) ∧ (F 8 = 0 ∨ F 8 = 1) ∧ (F 9 = 0 ∨ F 9 = 1)
theorem okF_fact {w : Nat → Int} (hf : WF w) {j : Nat} {c hr hu gr : Int} (hj : j < 5) (hc : c < 8) (h1 : 0 ≤ hr ∧ hr ≤ 99) (h2 : 0 ≤ hu ∧ hu ≤ 99) (h3 : 0 ≤ gr ∧ gr ≤ 99) : okF (factW w j c hr hu gr) := by
  refine ⟨fun k => ?_, bI01 _, bI01 _, bI01 _⟩
  have b01 : ∀ b, 0 ≤ bI b ∧ bI b ≤ 1000 := fun b => by rcases bI01 b with e | e <;> omega
  have hn := hf.nv hj
  match k with
  | 0 => simp only [factW]; omega
  | 1 => simp only [factW]; omega
  | 2 => simp only [factW]; omega
  | 3 =>
    simp only [factW]
    by_cases h : 0 ≤ c
    · have := hf.ki (c := c.toNat) (by omega)
      rw [if_pos h]; omega
    · rw [if_neg h]; omega
  | 4 => simp only [factW]; split <;> omega
  | 5 =>
    simp only [factW]
    by_cases h : 0 ≤ c
    · have := hf.wo (c := c.toNat) (by omega)
      rw [if_pos h]; omega
    · rw [if_neg h]; omega
  | 6 => simp only [factW]; omega
  | 7 => exact b01 _
  | 8 => exact b01 _
  | 9 => exact b01 _
  | k + 10 => simp [factW]
def hold (F w : Nat → Int) (n : Nat) : Bool := decide (runL F w (w (519 + 4 * n)).toNat ((w (520 + 4 * n)).toNat - (w (519 + 4 * n)).toNat) [] ≠ some [0])
def sumP (F w : Nat → Int) (v : Int) (n : Nat) : Bool := decide (w (517 + 4 * n) = v) && hold F w n
def sumW (F w : Nat → Int) (v : Int) : Int := if w 3 = 1 then sumB (fun n => w (518 + 4 * n)) (sumP F w v) (w 516).toNat else 0
def LnOK (w : Nat → Int) (n : Nat) : Prop := (0 ≤ w (518 + 4 * n) ∧ w (518 + 4 * n) ≤ 99) ∧ (0 ≤ w (517 + 4 * n) ∧ w (517 + 4 * n) ≤ 2) ∧ (0 ≤ w (519 + 4 * n) ∧ w (519 + 4 * n) ≤ w (520 + 4 * n) ∧ w (520 + 4 * n) ≤ 400) ∧
  (∀ F, okF F → ∃ fin, runL F w (w (519 + 4 * n)).toNat ((w (520 + 4 * n)).toNat - (w (519 + 4 * n)).toNat) [] = some fin ∧ (fin = [] ∨ fin = [0] ∨ fin = [1])) ∧
  (∀ i : Nat, (i : Int) < w (520 + 4 * n) → (0 ≤ w (565 + 2 * i) ∧ w (565 + 2 * i) ≤ 16) ∧ (w (565 + 2 * i) = 10 → 0 ≤ w (566 + 2 * i) ∧ w (566 + 2 * i) ≤ 999))
def LawOK (w : Nat → Int) : Prop := w 3 = 1 → (0 ≤ w 516 ∧ w 516 ≤ 12) ∧ (w 516 ≠ 0 → w 519 = 0) ∧ (∀ n : Nat, ((n + 1 : Nat) : Int) < w 516 → w (519 + 4 * (n + 1)) = w (520 + 4 * n)) ∧ ∀ n : Nat, (n : Int) < w 516 → LnOK w n
theorem sumW_rng {F w : Nat → Int} (hl : LawOK w) (v : Int) : 0 ≤ sumW F w v ∧ sumW F w v ≤ 1200 := by
  unfold sumW
  by_cases h : w 3 = 1
  · rw [if_pos h]
    obtain ⟨h1, -, -, h2⟩ := hl h
    have := sumB_rng (f := fun n => w (518 + 4 * n)) (p := sumP F w v) (m := 99) (by omega) (n := (w 516).toNat) (fun k hk => (h2 k (by omega)).1)
    omega
  · rw [if_neg h]; omega
/-- POINT, with an hour, a hunger and a grave that may be other than those that are -/
def ptW (w : Nat → Int) (j : Nat) (c hr hu gr : Int) : Int := hu + w (81 + 4 * j) + sumW (factW w j c hr hu gr) w 0 - gr - sumW (factW w j c hr hu gr) w 1
theorem ptW_rng {w : Nat → Int} (hf : WF w) (hl : LawOK w) {j : Nat} (hj : j < 5) {c hr hu gr : Int} (h2 : 0 ≤ hu ∧ hu ≤ 99) (h3 : 0 ≤ gr ∧ gr ≤ 99) : -3000 ≤ ptW w j c hr hu gr ∧ ptW w j c hr hu gr ≤ 3000 := by
  have h4 := hf.me hj
  have h5 := sumW_rng (F := factW w j c hr hu gr) hl 0
  have h6 := sumW_rng (F := factW w j c hr hu gr) hl 1
  unfold ptW
  omega
