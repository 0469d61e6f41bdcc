/-! HOURS, as plain functions of the row -/
theorem WF.ulog {w : Nat → Int} (f : WF w) {x k j p : Int} (hx : in32 x) (hk : in32 k) (hj : in32 j) (hp : in32 p) : WF (logW w x k j p) := by
  have hca := f.cas
  have hlg := f.log
  have n : ∀ i, (i < 156 ∨ 516 ≤ i) → i ≠ 6 → logW w x k j p i = w i := fun i h1 h2 => logW_n h1 h2
  refine ⟨?_, ?_, ?_, ?_, ?_, ?_, ?_, ?_, ?_, ?_, ?_, ?_, ?_, ?_, ?_, ?_, ?_⟩
  · rw [n _ (by omega) (by omega)]; exact f.jud
  · rw [n _ (by omega) (by omega)]; exact f.cas
  · rw [n _ (by omega) (by omega)]; exact f.tex
  · rw [n _ (by omega) (by omega)]; exact f.law
  · rw [n _ (by omega) (by omega)]; exact f.hou
  · rw [n _ (by omega) (by omega)]; exact f.day
  · rw [logW_6]; split <;> omega
  · rw [n _ (by omega) (by omega)]; exact f.see
  · intro k hk; rw [n _ (by omega) (by omega)]; exact f.inn k hk
  · intro q hq; rw [n _ (by omega) (by omega), n 1 (by omega) (by omega)]; exact f.pla q hq
  · intro a b ha hb h1 h2
    rw [n _ (by omega) (by omega)] at h1 h2
    rw [n _ (by omega) (by omega)] at h1
    exact f.one a b ha hb h1 h2
  · intro q hq h1
    rw [n 0 (by omega) (by omega)] at h1
    rw [n _ (by omega) (by omega)]; exact f.out q hq h1
  · intro j hj
    rw [n _ (by omega) (by omega), n _ (by omega) (by omega), n _ (by omega) (by omega), n _ (by omega) (by omega)]; exact f.jof j hj
  · intro c hc
    rw [n _ (by omega) (by omega), n _ (by omega) (by omega), n _ (by omega) (by omega), n _ (by omega) (by omega), n _ (by omega) (by omega), n _ (by omega) (by omega), n _ (by omega) (by omega)]; exact f.cof c hc
  · intro c h1
    rw [n 1 (by omega) (by omega)] at h1
    rw [n _ (by omega) (by omega)]; exact f.lea c h1
  · intro c hc h1
    rw [n 1 (by omega) (by omega)] at h1
    rw [n _ (by omega) (by omega)]; exact f.wai c hc h1
  · intro r i hr hi
    by_cases e : r = 0
    · subst e
      have d5 := f.day
      have d4 := f.hou
      match i, hi with
      | 0, _ => simp only [logW]; simp; unfold in32; omega
      | 1, _ => simp only [logW]; simp; unfold in32; omega
      | 2, _ => simp only [logW]; simp; exact hx
      | 3, _ => simp only [logW]; simp; exact hk
      | 4, _ => simp only [logW]; simp; exact hj
      | 5, _ => simp only [logW]; simp; exact hp
    · rw [logW_o (by omega) (by omega), show 156 + 6 * r + i - 6 = 156 + 6 * (r - 1) + i by omega]
      exact f.row (r - 1) i (by omega) hi
theorem SameL.log {w w' : Nat → Int} (h1 : SameL w w') {x k j p : Int} : SameL w (logW w' x k j p) := fun i hi => by rw [logW_n (by omega) (by omega)]; exact h1 i hi
/-- what stays: judges, cases, texts, the hour; the law -/
def Keep (w w' : Nat → Int) : Prop := (w' 0 = w 0 ∧ w' 1 = w 1 ∧ w' 4 = w 4) ∧ SameL w w' ∧ w' 5 = w 5
theorem Keep.rf (w : Nat → Int) : Keep w w := ⟨⟨rfl, rfl, rfl⟩, SameL.rf w, rfl⟩
theorem Keep.tr {a b c : Nat → Int} (h1 : Keep a b) (h2 : Keep b c) : Keep a c := ⟨⟨h2.1.1.trans h1.1.1, h2.1.2.1.trans h1.1.2.1, h2.1.2.2.trans h1.1.2.2⟩, h1.2.1.tr h2.2.1, h2.2.2.trans h1.2.2⟩
theorem Keep.upd {w w' : Nat → Int} (h : Keep w w') {k : Nat} {v : Int} (hk : 6 ≤ k) (hk2 : k < 516) : Keep w (updW w' k v) := ⟨⟨by rw [updW_n (by omega)]; exact h.1.1, by rw [updW_n (by omega)]; exact h.1.2.1, by rw [updW_n (by omega)]; exact h.1.2.2⟩, h.2.1.upd (by omega) (by omega), by rw [updW_n (by omega)]; exact h.2.2⟩
theorem Keep.log {w w' : Nat → Int} (h : Keep w w') {x k j p : Int} : Keep w (logW w' x k j p) := ⟨⟨by rw [logW_n (by omega) (by omega)]; exact h.1.1, by rw [logW_n (by omega) (by omega)]; exact h.1.2.1, by rw [logW_n (by omega) (by omega)]; exact h.1.2.2⟩, h.2.1.log, by rw [logW_n (by omega) (by omega)]; exact h.2.2⟩
/-- a case is found -/
def fnd (p : Int) : Int := if 0 ≤ p then 1 else 2
def findP (w : Nat → Int) (j x : Nat) (p : Int) : Nat → Int := logW (updW (updW (updW w (104 + 7 * x) (fnd p)) (105 + 7 * x) j) (106 + 7 * x) (w 5)) x (if 0 ≤ p then 0 else 1) j p
theorem fnd_rng (p : Int) : 1 ≤ fnd p ∧ fnd p ≤ 2 := by unfold fnd; split <;> omega
theorem findP_wf {w : Nat → Int} (f : WF w) {j x : Nat} {p : Int} (hj : j < 5) (hx : (x : Int) < w 1) (hp : in32 p) : WF (findP w j x p) := by
  have hca := f.cas
  have hd := f.day
  have hfn := fnd_rng p
  have f1 := f.ust (k := x) (v := fnd p) hx (by omega) (by omega)
  have f2 := f1.uby (k := x) (v := (j : Int)) (by omega) (by omega)
  have f3 := f2.udy (k := x) (v := w 5) (by omega) (by omega)
  exact f3.ulog (by unfold in32; omega) (by unfold in32; split <;> omega) (by unfold in32; omega) hp
theorem findP_keep {w : Nat → Int} {j x : Nat} {p : Int} (hx : x < 8) : Keep w (findP w j x p) := (((Keep.rf w).upd (by omega) (by omega)).upd (by omega) (by omega)).upd (by omega) (by omega) |>.log
theorem waitAt_rng {w : Nat → Int} (f : WF w) {j k : Nat} (hj : j < 5) (hk : k < 12) : waitAt w j k = -1 ∨ (0 ≤ waitAt w j k ∧ waitAt w j k < w 1) := by
  have := f.pla (12 * j + k) (by omega)
  unfold waitAt
  (repeat' split) <;> omega
abbrev Hst : Type := (Nat → Int) × (Nat → Int) × Nat
def heaS (j : Nat) (a : Hst) : Hst := (if 0 ≤ waitAt a.1 j (a.1 4).toNat then findP a.1 j (waitAt a.1 j (a.1 4).toNat).toNat (pt0 a.1 j (waitAt a.1 j (a.1 4).toNat).toNat (a.1 4)) else a.1, updW a.2.1 j (waitAt a.1 j (a.1 4).toNat), if 0 ≤ waitAt a.1 j (a.1 4).toNat then a.2.2 + 1 else a.2.2)
def heaF (w : Nat → Int) : Nat → Hst := foldN heaS (w, fun _ => -1, 0)
theorem heaF_s (w : Nat → Int) (n : Nat) : heaF w (n + 1) = heaS n (heaF w n) := rfl
theorem in32_of {x : Int} (h1 : -2147483648 ≤ x) (h2 : x ≤ 2147483647) : in32 x := ⟨h1, h2⟩
theorem heaF_ok {w : Nat → Int} (f : WF w) (hl : LawOK w) : ∀ n : Nat, (n : Int) ≤ w 0 → WF (heaF w n).1 ∧ Keep w (heaF w n).1 ∧ (∀ j, j < n → -1 ≤ (heaF w n).2.1 j ∧ (heaF w n).2.1 j < w 1) ∧ (heaF w n).2.2 ≤ n := by
  intro n
  induction n with
  | zero => intro _; exact ⟨f, Keep.rf w, (fun j hj => absurd hj (Nat.not_lt_zero _)), Nat.le_refl _⟩
  | succ n ih =>
    intro hn
    obtain ⟨i1, i2, i3, i4⟩ := ih (by omega)
    have hjd := f.jud
    have hho := i1.hou
    have hca := i1.cas
    rw [heaF_s]
    generalize heaF w n = a at i1 i2 i3 i4 hho hca ⊢
    have hw := waitAt_rng i1 (j := n) (k := (a.1 4).toNat) (by omega) (by omega)
    have hk1 := i2.1.2.1
    unfold heaS
    refine ⟨?_, ?_, ?_, ?_⟩
    · dsimp only
      by_cases h : 0 ≤ waitAt a.1 n (a.1 4).toNat
      · rw [if_pos h]
        have hp := ptW_rng i1 (hl.same i2.2.1) (j := n) (by omega) (c := ((waitAt a.1 n (a.1 4).toNat).toNat : Int)) (hr := a.1 4) (hu := a.1 (80 + 4 * n)) (gr := a.1 (101 + 7 * (waitAt a.1 n (a.1 4).toNat).toNat)) (i1.hu (by omega)) (i1.gr (by omega))
        exact findP_wf i1 (by omega) (by omega) (by unfold pt0; exact in32_of (by omega) (by omega))
      · rw [if_neg h]; exact i1
    · dsimp only
      by_cases h : 0 ≤ waitAt a.1 n (a.1 4).toNat
      · rw [if_pos h]; exact i2.tr (findP_keep (by omega))
      · rw [if_neg h]; exact i2
    · intro j hj
      dsimp only
      by_cases e : j = n
      · subst e; rw [updW_s]; omega
      · rw [updW_n e]; exact i3 j (by omega)
    · dsimp only
      split <;> omega
/-- all grow hungry -/
def hunF (w : Nat → Int) : Nat → Nat → Int := foldN (fun j a => updW a (80 + 4 * j) (mn99 (a (80 + 4 * j) + 1))) w
theorem hunF_s (w : Nat → Int) (n : Nat) : hunF w (n + 1) = updW (hunF w n) (80 + 4 * n) (mn99 (hunF w n (80 + 4 * n) + 1)) := rfl
theorem hunF_ok {w : Nat → Int} (f : WF w) : ∀ n : Nat, (n : Int) ≤ w 0 → WF (hunF w n) ∧ Keep w (hunF w n) := by
  intro n
  induction n with
  | zero => intro _; exact ⟨f, Keep.rf w⟩
  | succ n ih =>
    intro hn
    have hjd := f.jud
    obtain ⟨i1, i2⟩ := ih (by omega)
    have := i1.hu (j := n) (by omega)
    rw [hunF_s]
    exact ⟨i1.uhu (by omega) (mn99_rng (by omega)), i2.upd (by omega) (by omega)⟩
/-- draws -/
def drwS (w : Nat → Int) : Int := wrap (wrap (w 7 * 1103515245) + 12345)
def drwV (s : Int) : Int := andI (shrI s 16) 32767
theorem tb_32767 : ∀ k, k < 32 → tb 32767 k = decide (k < 15) := by decide +kernel
theorem andI_nonneg {a b : Int} (hb : tb b 31 = false) : 0 ≤ andI a b := by
  have h : tb (andI a b) 31 = false := by rw [tb_and, hb, Bool.and_false]
  have h2 := in32_andI a b
  unfold tb bt at h
  have h3 : (Int32.ofInt (andI a b)).toBitVec.msb = false := by
    rw [BitVec.msb_eq_getLsbD_last]; exact h
  have h4 := BitVec.toInt_eq_toNat_of_msb h3
  have h5 : (Int32.ofInt (andI a b)).toInt = andI a b := toInt_ofInt32 h2
  have h6 : (Int32.ofInt (andI a b)).toInt = (Int32.ofInt (andI a b)).toBitVec.toInt := rfl
  rw [← h5, h6, h4]
  exact Int.natCast_nonneg _
theorem drwV_rng (s : Int) : 0 ≤ drwV s ∧ drwV s ≤ 2147483647 := ⟨andI_nonneg (tb_32767 31 (by omega)), (in32_andI _ _).2⟩
/-- what crumbs of a judge undo -/
def undF (w : Nat → Int) (j : Nat) (s : Int) : Nat → Nat → Int := foldN (fun c a => if tb s c then logW (updW a (104 + 7 * c) 3) c 2 j 0 else a) w
theorem undF_t {w : Nat → Int} {j : Nat} {s : Int} {n : Nat} (h : tb s n = true) : undF w j s (n + 1) = logW (updW (undF w j s n) (104 + 7 * n) 3) n 2 j 0 := by simp [undF, foldN_s, h]
theorem undF_f {w : Nat → Int} {j : Nat} {s : Int} {n : Nat} (h : tb s n = false) : undF w j s (n + 1) = undF w j s n := by simp [undF, foldN_s, h]
theorem undF_ok {w : Nat → Int} (f : WF w) {j : Nat} (hj : j < 5) (s : Int) : ∀ n : Nat, (n : Int) ≤ w 1 → WF (undF w j s n) ∧ Keep w (undF w j s n) := by
  intro n
  induction n with
  | zero => intro _; exact ⟨f, Keep.rf w⟩
  | succ n ih =>
    intro hn
    have hca := f.cas
    obtain ⟨i1, i2⟩ := ih (by omega)
    have hk1 := i2.1.2.1
    cases h : tb s n
    · rw [undF_f h]; exact ⟨i1, i2⟩
    · rw [undF_t h]
      exact ⟨(i1.ust (by omega) (by omega) (by omega)).ulog (by unfold in32; omega) (by unfold in32; omega) (by unfold in32; omega) (by unfold in32; omega), (i2.upd (by omega) (by omega)).log⟩
def drwW (w : Nat → Int) : Nat → Int := updW w 7 (drwS w)
def crmW (w : Nat → Int) (j : Nat) : Nat → Int := undF (updW w (80 + 4 * j) 0) j (crum (updW w (80 + 4 * j) 0) j) (w 1).toNat
def draS (hd : Nat → Int) (j : Nat) (a : Nat → Int) : Nat → Int := if drwV (drwS a) % 100 < crW a j (hd j) then crmW (drwW a) j else drwW a
def draF (hd : Nat → Int) (w : Nat → Int) : Nat → Nat → Int := foldN (draS hd) w
theorem draF_s (hd w : Nat → Int) (n : Nat) : draF hd w (n + 1) = draS hd n (draF hd w n) := rfl
theorem drwW_ok {w : Nat → Int} (f : WF w) : WF (drwW w) ∧ Keep w (drwW w) := ⟨f.use (in32_wrap _), (Keep.rf w).upd (by omega) (by omega)⟩
theorem crmW_ok {w : Nat → Int} (f : WF w) {j : Nat} (hj : j < 5) : WF (crmW w j) ∧ Keep w (crmW w j) := by
  have hca := f.cas
  have f1 := f.uhu (k := j) (v := 0) hj (by omega)
  have k1 := (Keep.rf w).upd (k := 80 + 4 * j) (v := 0) (by omega) (by omega)
  obtain ⟨a, b⟩ := undF_ok f1 hj (crum (updW w (80 + 4 * j) 0) j) (w 1).toNat (by rw [updW_n (by omega)]; omega)
  exact ⟨a, k1.tr b⟩
theorem draF_ok {hd w : Nat → Int} (f : WF w) : ∀ n : Nat, (n : Int) ≤ w 0 → WF (draF hd w n) ∧ Keep w (draF hd w n) := by
  intro n
  induction n with
  | zero => intro _; exact ⟨f, Keep.rf w⟩
  | succ n ih =>
    intro hn
    have hjd := f.jud
    obtain ⟨i1, i2⟩ := ih (by omega)
    obtain ⟨a1, a2⟩ := drwW_ok i1
    obtain ⟨b1, b2⟩ := crmW_ok a1 (j := n) (by omega)
    rw [draF_s]
    unfold draS
    split
    · exact ⟨b1, (i2.tr a2).tr b2⟩
    · exact ⟨a1, i2.tr a2⟩
/-- the hour turns -/
def dayN (w : Nat → Int) : Int := if w 5 + 1 < 9999 then w 5 + 1 else 9999
def turW (w : Nat → Int) : Nat → Int := if w 4 + 1 < 12 then updW w 4 (w 4 + 1) else tofW (updW (updW w 4 0) 5 (dayN w)) 60
theorem tofW_wf {w : Nat → Int} (f : WF w) : ∀ n, n ≤ 60 → WF (tofW w n) := by
  intro n
  induction n with
  | zero => intro _; rw [tofW_0]; exact f
  | succ n ih =>
    intro hn
    by_cases h : 0 ≤ w (20 + n) ∧ w (104 + 7 * (w (20 + n)).toNat) ≠ 0
    · rw [tofW_t h]; exact (ih (by omega)).upl (by omega) (Or.inl rfl)
    · rw [tofW_f h]; exact ih (by omega)
theorem turW_ok {w : Nat → Int} (f : WF w) : WF (turW w) ∧ (turW w 0 = w 0 ∧ turW w 1 = w 1) ∧ SameL w (turW w) := by
  have h4 := f.hou
  have h5 := f.day
  unfold turW
  by_cases h : w 4 + 1 < 12
  · rw [if_pos h]
    exact ⟨f.uho (by omega), ⟨updW_n (by omega), updW_n (by omega)⟩, (SameL.rf w).upd (by omega) (by omega)⟩
  · rw [if_neg h]
    refine ⟨tofW_wf ((f.uho (v := 0) (by omega)).uda (by unfold dayN; split <;> omega)) 60 (Nat.le_refl _), ⟨?_, ?_⟩, fun i hi => ?_⟩
    · rw [tofW_n (by omega), updW_n (by omega), updW_n (by omega)]
    · rw [tofW_n (by omega), updW_n (by omega), updW_n (by omega)]
    · rw [tofW_n (by omega), updW_n (by omega), updW_n (by omega)]
/-- an hour, and hours -/
def hurA (w : Nat → Int) : Nat → Int := hunF (heaF w (w 0).toNat).1 (w 0).toNat
def hurB (w : Nat → Int) (cr : Bool) : Nat → Int := if cr then draF (heaF w (w 0).toNat).2.1 (hurA w) (w 0).toNat else hurA w
def hurW (w : Nat → Int) (cr : Bool) : Nat → Int := turW (hurB w cr)
def goF (w : Nat → Int) (cr : Bool) : Nat → (Nat → Int) × Nat := foldN (fun _ a => (hurW a.1 cr, a.2 + (heaF a.1 (a.1 0).toNat).2.2)) (w, 0)
theorem goF_s (w : Nat → Int) (cr : Bool) (n : Nat) : goF w cr (n + 1) = (hurW (goF w cr n).1 cr, (goF w cr n).2 + (heaF (goF w cr n).1 ((goF w cr n).1 0).toNat).2.2) := rfl
theorem hurA_ok {w : Nat → Int} (f : WF w) (hl : LawOK w) : WF (hurA w) ∧ Keep w (hurA w) := by
  have hjd := f.jud
  obtain ⟨a1, a2, -, -⟩ := heaF_ok f hl (w 0).toNat (by omega)
  obtain ⟨b1, b2⟩ := hunF_ok a1 (w 0).toNat (by rw [a2.1.1]; omega)
  exact ⟨b1, a2.tr b2⟩
theorem hurB_ok {w : Nat → Int} (f : WF w) (hl : LawOK w) (cr : Bool) : WF (hurB w cr) ∧ Keep w (hurB w cr) := by
  have hjd := f.jud
  obtain ⟨a1, a2⟩ := hurA_ok f hl
  unfold hurB
  cases cr
  · exact ⟨a1, a2⟩
  · obtain ⟨b1, b2⟩ := draF_ok (hd := (heaF w (w 0).toNat).2.1) a1 (w 0).toNat (by rw [a2.1.1]; omega)
    exact ⟨b1, a2.tr b2⟩
theorem hurW_ok {w : Nat → Int} (f : WF w) (hl : LawOK w) (cr : Bool) : WF (hurW w cr) ∧ (hurW w cr 0 = w 0 ∧ hurW w cr 1 = w 1) ∧ SameL w (hurW w cr) := by
  obtain ⟨a1, a2⟩ := hurB_ok f hl cr
  obtain ⟨b1, b2, b3⟩ := turW_ok a1
  exact ⟨b1, ⟨b2.1.trans a2.1.1, b2.2.trans a2.1.2.1⟩, a2.2.1.tr b3⟩
theorem goF_ok {w : Nat → Int} (f : WF w) (hl : LawOK w) (cr : Bool) : ∀ n, WF (goF w cr n).1 ∧ ((goF w cr n).1 0 = w 0 ∧ (goF w cr n).1 1 = w 1) ∧ SameL w (goF w cr n).1 ∧ (goF w cr n).2 ≤ 5 * n := by
  intro n
  induction n with
  | zero => exact ⟨f, ⟨rfl, rfl⟩, SameL.rf w, Nat.le_refl _⟩
  | succ n ih =>
    obtain ⟨i1, i2, i3, i4⟩ := ih
    obtain ⟨a1, a2, a3⟩ := hurW_ok i1 (hl.same i3) cr
    have hjd := i1.jud
    have := (heaF_ok i1 (hl.same i3) ((goF w cr n).1 0).toNat (by omega)).2.2.2
    rw [goF_s]
    refine ⟨a1, ⟨a2.1.trans i2.1, a2.2.trans i2.2⟩, i3.tr a3, ?_⟩
    dsimp only
    omega
