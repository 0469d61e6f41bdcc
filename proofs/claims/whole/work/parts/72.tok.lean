/-! THE THINGS OF A TEXT -/
def isLB (x : Int) : Bool := decide (97 ≤ x) && decide (x ≤ 122)
def isDB (x : Int) : Bool := decide (48 ≤ x) && decide (x ≤ 57)
def isSB (x : Int) : Bool := decide (x = 32)
theorem isLB_t {x : Int} : isLB x = true ↔ 97 ≤ x ∧ x ≤ 122 := by unfold isLB; rw [Bool.and_eq_true, decide_eq_true_iff, decide_eq_true_iff]
theorem isDB_t {x : Int} : isDB x = true ↔ 48 ≤ x ∧ x ≤ 57 := by unfold isDB; rw [Bool.and_eq_true, decide_eq_true_iff, decide_eq_true_iff]
theorem isSB_t {x : Int} : isSB x = true ↔ x = 32 := by unfold isSB; rw [decide_eq_true_iff]
theorem isLB_f {x : Int} : isLB x = false ↔ ¬ (97 ≤ x ∧ x ≤ 122) := by rw [← isLB_t]; simp
theorem isDB_f {x : Int} : isDB x = false ↔ ¬ (48 ≤ x ∧ x ≤ 57) := by rw [← isDB_t]; simp
theorem isSB_f {x : Int} : isSB x = false ↔ ¬ x = 32 := by rw [← isSB_t]; simp
/-- on while q holds, below L -/
def sk (q : Nat → Bool) : Nat → Nat → Nat
  | 0, p => p
  | n + 1, p => if q p = true then sk q n (p + 1) else p
def skL (q : Nat → Bool) (L p : Nat) : Nat := sk q (L - p) p
theorem skL_ge {q : Nat → Bool} {L p : Nat} (h : L ≤ p) : skL q L p = p := by
  unfold skL
  rw [show L - p = 0 by omega]
  rfl
theorem skL_t {q : Nat → Bool} {L p : Nat} (h : p < L) (hq : q p = true) : skL q L p = skL q L (p + 1) := by
  unfold skL
  rw [show L - p = (L - (p + 1)) + 1 by omega]
  show (if q p = true then sk q (L - (p + 1)) (p + 1) else p) = _
  rw [if_pos hq]
theorem skL_f {q : Nat → Bool} {L p : Nat} (hq : q p = false) : skL q L p = p := by
  unfold skL
  cases L - p with
  | zero => rfl
  | succ n =>
    show (if q p = true then sk q n (p + 1) else p) = _
    rw [if_neg (by rw [hq]; decide)]
theorem skL_rng {q : Nat → Bool} {L : Nat} : ∀ m p : Nat, L - p = m → p ≤ skL q L p ∧ (p ≤ L → skL q L p ≤ L) ∧ (∀ i, p ≤ i → i < skL q L p → q i = true) ∧ (skL q L p < L → q (skL q L p) = false) := by
  intro m
  induction m with
  | zero =>
    intro p hp
    rw [skL_ge (by omega)]
    exact ⟨Nat.le_refl _, fun h => h, fun i h1 h2 => absurd h2 (by omega), fun h => absurd h (by omega)⟩
  | succ m ih =>
    intro p hp
    cases hq : q p with
    | false =>
      rw [skL_f hq]
      exact ⟨Nat.le_refl _, fun h => h, fun i h1 h2 => absurd h2 (by omega), fun _ => hq⟩
    | true =>
      rw [skL_t (by omega) hq]
      obtain ⟨h1, h2, h3, h4⟩ := ih (p + 1) (by omega)
      refine ⟨by omega, fun h => h2 (by omega), fun i h5 h6 => ?_, h4⟩
      by_cases e : i = p
      · rw [e]; exact hq
      · exact h3 i (by omega) h6
theorem skL_lo (q : Nat → Bool) (L p : Nat) : p ≤ skL q L p := (skL_rng _ p rfl).1
theorem skL_hi {q : Nat → Bool} {L p : Nat} (h : p ≤ L) : skL q L p ≤ L := (skL_rng _ p rfl).2.1 h
theorem skL_all {q : Nat → Bool} {L p i : Nat} (h1 : p ≤ i) (h2 : i < skL q L p) : q i = true := (skL_rng _ p rfl).2.2.1 i h1 h2
theorem skL_end {q : Nat → Bool} {L p : Nat} (h : skL q L p < L) : q (skL q L p) = false := (skL_rng _ p rfl).2.2.2 h
theorem skL_at {q : Nat → Bool} {L p s : Nat} (h1 : p ≤ s) (h2 : s ≤ L) (h3 : ∀ i, p ≤ i → i < s → q i = true) (h4 : s < L → q s = false) : skL q L p = s := by
  have r1 := skL_lo q L p
  have r2 := skL_hi (q := q) (L := L) (p := p) (by omega)
  rcases Nat.lt_trichotomy (skL q L p) s with h | h | h
  · have e1 := h3 _ r1 h
    rw [skL_end (q := q) (L := L) (p := p) (by omega)] at e1
    exact absurd e1 (by decide)
  · exact h
  · have e1 := skL_all (q := q) h1 h
    rw [h4 (by omega)] at e1
    exact absurd e1 (by decide)
section
variable {b : Nat → Int} {L : Nat}
/-- the thing's end -/
def enT (b : Nat → Int) (L s : Nat) : Nat := if L ≤ s then s else if isLB (b s) = true then skL (fun i => isLB (b i)) L s else if isDB (b s) = true then skL (fun i => isDB (b i)) L s else s + 1
def nxT (b : Nat → Int) (L p : Nat) : Nat := skL (fun i => isSB (b i)) L p
/-- where the k-th thing starts -/
def stT (b : Nat → Int) (L : Nat) : Nat → Nat
  | 0 => nxT b L 0
  | k + 1 => nxT b L (enT b L (stT b L k))
/-- of the run that the byte ahead is of -/
def gOn (b : Nat → Int) (i : Nat) : Bool := decide (0 < i) && (isLB (b (i - 1)) && isLB (b i) || isDB (b (i - 1)) && isDB (b i))
theorem enT_ge {s : Nat} (h : L ≤ s) : enT b L s = s := by unfold enT; rw [if_pos h]
theorem enT_l {s : Nat} (h : s < L) (hl : isLB (b s) = true) : enT b L s = skL (fun i => isLB (b i)) L s := by unfold enT; rw [if_neg (by omega), if_pos hl]
theorem ld_no {x : Int} (h : isDB x = true) : isLB x = false := isLB_f.mpr (by have := isDB_t.mp h; omega)
theorem enT_d {s : Nat} (h : s < L) (hl : isDB (b s) = true) : enT b L s = skL (fun i => isDB (b i)) L s := by unfold enT; rw [if_neg (by omega), if_neg (by rw [ld_no hl]; decide), if_pos hl]
theorem enT_s {s : Nat} (h : s < L) (hl : isLB (b s) = false) (hd : isDB (b s) = false) : enT b L s = s + 1 := by unfold enT; rw [if_neg (by omega), if_neg (by rw [hl]; decide), if_neg (by rw [hd]; decide)]
theorem enT_gt {s : Nat} (h : s < L) : s < enT b L s ∧ enT b L s ≤ L := by
  cases hl : isLB (b s) with
  | true =>
    rw [enT_l h hl, skL_t h hl]
    have := skL_lo (fun i => isLB (b i)) L (s + 1)
    have := skL_hi (q := fun i => isLB (b i)) (L := L) (p := s + 1) (by omega)
    omega
  | false =>
    cases hd : isDB (b s) with
    | true =>
      rw [enT_d h hd, skL_t h hd]
      have := skL_lo (fun i => isDB (b i)) L (s + 1)
      have := skL_hi (q := fun i => isDB (b i)) (L := L) (p := s + 1) (by omega)
      omega
    | false => rw [enT_s h hl hd]; omega
theorem gOn_t {i : Nat} (h : 0 < i) (q : (isLB (b (i - 1)) = true ∧ isLB (b i) = true) ∨ (isDB (b (i - 1)) = true ∧ isDB (b i) = true)) : gOn b i = true := by
  unfold gOn
  rw [decide_eq_true h]
  rcases q with ⟨q1, q2⟩ | ⟨q1, q2⟩ <;> simp [q1, q2]
theorem gOn_f {i : Nat} (q1 : isLB (b (i - 1)) = true → isLB (b i) = false) (q2 : isDB (b (i - 1)) = true → isDB (b i) = false) : gOn b i = false := by
  unfold gOn
  cases h1 : isLB (b (i - 1)) <;> cases h2 : isDB (b (i - 1)) <;> simp_all
theorem enT_in {s i : Nat} (h : s < L) (h1 : s < i) (h2 : i < enT b L s) : gOn b i = true := by
  cases hl : isLB (b s) with
  | true =>
    rw [enT_l h hl] at h2
    exact gOn_t (by omega) (Or.inl ⟨skL_all (q := fun i => isLB (b i)) (L := L) (p := s) (i := i - 1) (by omega) (by omega), skL_all (q := fun i => isLB (b i)) (L := L) (p := s) (by omega) h2⟩)
  | false =>
    cases hd : isDB (b s) with
    | true =>
      rw [enT_d h hd] at h2
      exact gOn_t (by omega) (Or.inr ⟨skL_all (q := fun i => isDB (b i)) (L := L) (p := s) (i := i - 1) (by omega) (by omega), skL_all (q := fun i => isDB (b i)) (L := L) (p := s) (by omega) h2⟩)
    | false =>
      rw [enT_s h hl hd] at h2
      omega
theorem enT_out {s : Nat} (h : s < L) (h2 : enT b L s < L) : gOn b (enT b L s) = false := by
  have h3 := (enT_gt (b := b) h).1
  cases hl : isLB (b s) with
  | true =>
    rw [enT_l h hl] at h2 h3 ⊢
    have e1 := skL_all (q := fun i => isLB (b i)) (L := L) (p := s) (i := skL (fun i => isLB (b i)) L s - 1) (by omega) (by omega)
    refine gOn_f (fun _ => skL_end (q := fun i => isLB (b i)) h2) (fun q => ?_)
    exact absurd ((ld_no q).symm.trans e1) (by decide)
  | false =>
    cases hd : isDB (b s) with
    | true =>
      rw [enT_d h hd] at h2 h3 ⊢
      have e1 := skL_all (q := fun i => isDB (b i)) (L := L) (p := s) (i := skL (fun i => isDB (b i)) L s - 1) (by omega) (by omega)
      refine gOn_f (fun q => ?_) (fun _ => skL_end (q := fun i => isDB (b i)) h2)
      exact absurd ((ld_no e1).symm.trans q) (by decide)
    | false =>
      rw [enT_s h hl hd]
      refine gOn_f (fun q => ?_) (fun q => ?_)
      · rw [show s + 1 - 1 = s by omega, hl] at q; exact absurd q (by decide)
      · rw [show s + 1 - 1 = s by omega, hd] at q; exact absurd q (by decide)
theorem nxT_lo (p : Nat) : p ≤ nxT b L p := skL_lo _ _ _
theorem nxT_hi {p : Nat} (h : p ≤ L) : nxT b L p ≤ L := skL_hi h
theorem nxT_in {p i : Nat} (h1 : p ≤ i) (h2 : i < nxT b L p) : b i = 32 := isSB_t.mp (skL_all (q := fun i => isSB (b i)) h1 h2)
theorem nxT_end {p : Nat} (h : nxT b L p < L) : b (nxT b L p) ≠ 32 := isSB_f.mp (skL_end (q := fun i => isSB (b i)) h)
theorem nxT_nx (p : Nat) : nxT b L (nxT b L p) = nxT b L p := by
  by_cases h : nxT b L p < L
  · exact skL_f (isSB_f.mpr (nxT_end h))
  · exact skL_ge (by omega)
theorem enT_le {s : Nat} (h : s ≤ L) : enT b L s ≤ L := by
  by_cases q : s < L
  · exact (enT_gt q).2
  · rw [enT_ge (by omega)]; exact h
theorem stT_le (k : Nat) : stT b L k ≤ L := by
  induction k with
  | zero => exact nxT_hi (Nat.zero_le _)
  | succ k ih => exact nxT_hi (enT_le ih)
theorem stT_lt {k : Nat} (h : stT b L k < L) : stT b L k < stT b L (k + 1) := Nat.lt_of_lt_of_le (enT_gt h).1 (nxT_lo _)
theorem stT_nx (k : Nat) : nxT b L (stT b L k) = stT b L k := by
  cases k with
  | zero => exact nxT_nx _
  | succ k => exact nxT_nx _
theorem stT_L {k : Nat} (h : stT b L k = L) : stT b L (k + 1) = L := by
  show nxT b L (enT b L (stT b L k)) = L
  rw [h, enT_ge (Nat.le_refl _)]
  exact skL_ge (Nat.le_refl _)
theorem stT_ns {k : Nat} (h : stT b L k < L) : b (stT b L k) ≠ 32 := by
  have := nxT_end (b := b) (L := L) (p := stT b L k) (by rw [stT_nx]; exact h)
  rwa [stT_nx] at this
theorem nxT_g {p : Nat} (hp : p = 0 ∨ (p < L → gOn b p = false)) (h : nxT b L p < L) : gOn b (nxT b L p) = false := by
  by_cases q : nxT b L p = p
  · rw [q]
    rcases hp with hp | hp
    · subst hp; rfl
    · exact hp (by omega)
  · have h1 := nxT_lo (b := b) (L := L) p
    have h2 := nxT_in (b := b) (L := L) (p := p) (i := nxT b L p - 1) (by omega) (by omega)
    refine gOn_f (fun q9 => ?_) (fun q9 => ?_)
    · rw [h2] at q9; exact absurd q9 (by decide)
    · rw [h2] at q9; exact absurd q9 (by decide)
theorem stT_g {k : Nat} (h : stT b L k < L) : gOn b (stT b L k) = false := by
  cases k with
  | zero => exact nxT_g (Or.inl rfl) h
  | succ k =>
    refine nxT_g (Or.inr fun h9 => ?_) h
    by_cases q : stT b L k < L
    · exact enT_out q h9
    · rw [enT_ge (by omega)] at h9; omega
/-- i starts a thing, or the next starts behind it -/
theorem stT_is {k i : Nat} (hi : i < L) (h0 : ∀ m, m < k → stT b L m < i) (h1 : i ≤ stT b L k) : (b i ≠ 32 ∧ gOn b i = false) ↔ stT b L k = i := by
  constructor
  · intro ⟨q1, q2⟩
    refine Nat.le_antisymm (Nat.not_lt.mp fun h2 => ?_) h1
    cases k with
    | zero => exact q1 (nxT_in (Nat.zero_le _) h2)
    | succ k =>
      have h3 := h0 k (by omega)
      by_cases h4 : i < enT b L (stT b L k)
      · rw [enT_in (by omega) h3 h4] at q2; exact absurd q2 (by decide)
      · exact q1 (nxT_in (by omega) h2)
  · intro e
    rw [← e] at hi ⊢
    exact ⟨stT_ns hi, stT_g hi⟩
theorem gOn_en {s : Nat} (h : s < L) : skL (gOn b) L (s + 1) = enT b L s := by
  have := enT_gt (b := b) h
  exact skL_at (by omega) (by omega) (fun i h1 h2 => enT_in h (by omega) h2) (fun h1 => enT_out h h1)
end
/-- the words, in their order -/
def wds : List (List Int) := [[106, 117, 100, 103, 101], [104, 117, 110, 103, 101, 114], [110, 101, 114, 118, 101], [107, 105, 110, 100], [103, 114, 97, 118, 101], [119, 111, 114, 116, 104], [104, 111, 117, 114], [108, 101, 97, 110, 105, 110, 103], [112, 114, 101, 99, 101, 100, 101, 110, 116], [108, 97, 116, 101], [109, 101, 114, 99, 121], [112, 97, 121], [99, 97, 115, 101], [108, 105, 115, 116], [105, 110, 110], [100, 97, 121], [111, 110], [109, 111, 118, 101], [104, 97, 114, 100, 101, 110], [99, 114, 117, 109, 98], [105, 102], [111, 114], [97, 110, 100], [110, 111, 116], [97], [98], [99], [100], [101], [102]]
def runEq (b : Nat → Int) (e : Nat) : List Int → Nat → Bool
  | [], s => decide (s = e)
  | c :: cs, s => decide (s < e) && decide (b s = c) && runEq b e cs (s + 1)
def wixL (b : Nat → Int) (s e : Nat) (ws : List (List Int)) (n : Nat) : Int := if ws.findIdx (fun c => runEq b e c s) < ws.length then 1000 + ((n + ws.findIdx (fun c => runEq b e c s) : Nat) : Int) else 3000
/-- by the class: over the letters of all words -/
def wrdF (b : Nat → Int) (s e : Nat) : List Int → Nat → Nat → Bool → Int
  | [], _, _, _ => 3000
  | c :: cs, n, x, m => if c ≠ 32 then wrdF b s e cs n (x + 1) (m && decide (x < e) && decide (b x = c)) else if (m && decide (x = e)) = true then 1000 + (n : Int) else wrdF b s e cs (n + 1) s true
theorem wrdF_w {b : Nat → Int} {s e : Nat} (r : List Int) (n : Nat) : ∀ (c : List Int) (x : Nat) (m : Bool), (∀ y ∈ c, y ≠ 32) → wrdF b s e (c ++ 32 :: r) n x m = if (m && runEq b e c x) = true then 1000 + (n : Int) else wrdF b s e r (n + 1) s true := by
  intro c
  induction c with
  | nil =>
    intro x m _
    show (if (32 : Int) ≠ 32 then _ else if (m && decide (x = e)) = true then 1000 + (n : Int) else wrdF b s e r (n + 1) s true) = _
    rw [if_neg (by simp)]
    rfl
  | cons y ys ih =>
    intro x m hc
    show (if y ≠ 32 then wrdF b s e (ys ++ 32 :: r) n (x + 1) (m && decide (x < e) && decide (b x = y)) else _) = _
    rw [if_pos (hc y List.mem_cons_self), ih _ _ (fun z hz => hc z (List.mem_cons_of_mem _ hz))]
    show _ = if (m && (decide (x < e) && decide (b x = y) && runEq b e ys (x + 1))) = true then _ else _
    rw [Bool.and_assoc, Bool.and_assoc, Bool.and_assoc]
theorem wrdF_all {b : Nat → Int} {s e : Nat} : ∀ (ws : List (List Int)) (n : Nat), (∀ c ∈ ws, ∀ y ∈ c, y ≠ 32) → wrdF b s e (ws.map (fun c => c ++ [32])).flatten n s true = wixL b s e ws n := by
  intro ws
  induction ws with
  | nil => intro n _; rfl
  | cons c cs ih =>
    intro n hc
    have e1 : ((c :: cs).map (fun c => c ++ [32])).flatten = c ++ 32 :: (cs.map (fun c => c ++ [32])).flatten := by
      rw [List.map_cons, List.flatten_cons, List.append_assoc]; rfl
    rw [e1, wrdF_w _ _ _ _ _ (hc c List.mem_cons_self), Bool.true_and, ih (n + 1) (fun d hd => hc d (List.mem_cons_of_mem _ hd))]
    unfold wixL
    rw [List.findIdx_cons, List.length_cons]
    cases hq : runEq b e c s with
    | true =>
      rw [if_pos rfl]
      simp
    | false =>
      rw [if_neg (by decide)]
      simp only [cond_false]
      by_cases h9 : cs.findIdx (fun c => runEq b e c s) < cs.length
      · rw [if_pos h9, if_pos (by omega)]; omega
      · rw [if_neg h9, if_neg (by omega)]
theorem wds_ok : ∀ c ∈ wds, ∀ y ∈ c, y ≠ 32 := by decide +kernel
theorem wds_sB : (wds.map (fun c => c ++ [32])).flatten = sBi 0 := by decide +kernel
def nuB (b : Nat → Int) (s : Nat) : Nat → Int
  | 0 => 0
  | n + 1 => nuB b s n * 10 + b (s + n) - 48
/-- the thing that starts at s -/
def thS (b : Nat → Int) (L s : Nat) : Int := if L ≤ s then -1 else if isLB (b s) = true then wixL b s (enT b L s) wds 0 else if isDB (b s) = true then (if 3 < enT b L s - s then 3000 else nuB b s (enT b L s - s)) else 2000 + b s
def thT (b : Nat → Int) (L k : Nat) : Int := thS b L (stT b L k)
theorem runEq_iff {b : Nat → Int} {e : Nat} : ∀ (c : List Int) (s : Nat), runEq b e c s = true ↔ e = s + c.length ∧ ∀ k, k < c.length → b (s + k) = c.getD k 0 := by
  intro c
  induction c with
  | nil =>
    intro s
    unfold runEq
    rw [decide_eq_true_iff]
    exact ⟨fun h => ⟨by simp [h], fun k hk => absurd hk (Nat.not_lt_zero _)⟩, fun h => by have := h.1; simp at this; omega⟩
  | cons y ys ih =>
    intro s
    unfold runEq
    rw [Bool.and_eq_true, Bool.and_eq_true, decide_eq_true_iff, decide_eq_true_iff, ih]
    rw [List.length_cons]
    constructor
    · rintro ⟨⟨h1, h2⟩, h3, h4⟩
      refine ⟨by omega, fun k hk => ?_⟩
      cases k with
      | zero => exact h2
      | succ k => rw [show s + (k + 1) = s + 1 + k by omega]; exact h4 k (by omega)
    · rintro ⟨h1, h2⟩
      refine ⟨⟨by omega, h2 0 (by omega)⟩, by omega, fun k hk => ?_⟩
      rw [show s + 1 + k = s + (k + 1) by omega]
      exact h2 (k + 1) (by omega)
theorem runEq_inj {b : Nat → Int} {e s : Nat} {c1 c2 : List Int} (h1 : runEq b e c1 s = true) (h2 : runEq b e c2 s = true) : c1 = c2 := by
  obtain ⟨a1, a2⟩ := (runEq_iff c1 s).mp h1
  obtain ⟨b1, b2⟩ := (runEq_iff c2 s).mp h2
  refine List.ext_getElem (by omega) fun i hi hj => ?_
  have q1 := a2 i hi
  have q2 := b2 i hj
  rw [q1, List.getD_eq_getElem?_getD, List.getD_eq_getElem?_getD, List.getElem?_eq_getElem hi, List.getElem?_eq_getElem hj] at q2
  exact q2
theorem wds_nd : ∀ i j : Fin 30, wds.getD i.val [] = wds.getD j.val [] → i = j := by decide +kernel
theorem wix_is {b : Nat → Int} {s e i : Nat} (hi : i < 30) : wixL b s e wds 0 = 1000 + (i : Int) ↔ runEq b e (wds.getD i []) s = true := by
  have hl : wds.length = 30 := rfl
  unfold wixL
  constructor
  · intro h
    by_cases q : wds.findIdx (fun c => runEq b e c s) < wds.length
    · rw [if_pos q] at h
      have h1 := List.findIdx_getElem (xs := wds) (p := fun c => runEq b e c s) (w := q)
      have h2 : wds.findIdx (fun c => runEq b e c s) = i := by omega
      rw [List.getD_eq_getElem?_getD, List.getElem?_eq_getElem (by omega)]
      simp only [h2] at h1
      exact h1
    · rw [if_neg q] at h; omega
  · intro h
    have hm : wds.getD i [] ∈ wds := by
      rw [List.getD_eq_getElem?_getD, List.getElem?_eq_getElem (by omega)]
      exact List.getElem_mem _
    have q : wds.findIdx (fun c => runEq b e c s) < wds.length := List.findIdx_lt_length_of_exists ⟨_, hm, h⟩
    have h1 := List.findIdx_getElem (xs := wds) (p := fun c => runEq b e c s) (w := q)
    have h3 := runEq_inj h h1
    have h4 := wds_nd ⟨i, hi⟩ ⟨wds.findIdx (fun c => runEq b e c s), by omega⟩ (by
      rw [h3, List.getD_eq_getElem?_getD, List.getElem?_eq_getElem q]
      rfl)
    have h5 := Fin.mk.inj h4
    rw [if_pos q, ← h5]
    omega
theorem wix_rng {b : Nat → Int} {s e : Nat} : wixL b s e wds 0 = 3000 ∨ ∃ i : Nat, i < 30 ∧ wixL b s e wds 0 = 1000 + (i : Int) := by
  have hl : wds.length = 30 := rfl
  unfold wixL
  by_cases q : wds.findIdx (fun c => runEq b e c s) < wds.length
  · rw [if_pos q]
    exact Or.inr ⟨wds.findIdx (fun c => runEq b e c s), by omega, by omega⟩
  · rw [if_neg q]
    exact Or.inl rfl
theorem nuB_rng {b : Nat → Int} {s n : Nat} (h : ∀ i, i < n → 48 ≤ b (s + i) ∧ b (s + i) ≤ 57) (hn : n ≤ 3) : 0 ≤ nuB b s n ∧ nuB b s n ≤ 999 := by
  match n, hn with
  | 0, _ =>
    show (0 : Int) ≤ 0 ∧ (0 : Int) ≤ 999
    decide
  | 1, _ =>
    have := h 0 (by omega)
    show 0 ≤ 0 * 10 + b (s + 0) - 48 ∧ 0 * 10 + b (s + 0) - 48 ≤ 999
    omega
  | 2, _ =>
    have := h 0 (by omega)
    have := h 1 (by omega)
    show 0 ≤ (0 * 10 + b (s + 0) - 48) * 10 + b (s + 1) - 48 ∧ (0 * 10 + b (s + 0) - 48) * 10 + b (s + 1) - 48 ≤ 999
    omega
  | 3, _ =>
    have := h 0 (by omega)
    have := h 1 (by omega)
    have := h 2 (by omega)
    show 0 ≤ ((0 * 10 + b (s + 0) - 48) * 10 + b (s + 1) - 48) * 10 + b (s + 2) - 48 ∧ ((0 * 10 + b (s + 0) - 48) * 10 + b (s + 1) - 48) * 10 + b (s + 2) - 48 ≤ 999
    omega
theorem dg_all {b : Nat → Int} {L s : Nat} (h : s < L) (hd : isDB (b s) = true) : ∀ i, i < enT b L s - s → 48 ≤ b (s + i) ∧ b (s + i) ≤ 57 := by
  intro i hi
  rw [enT_d h hd] at hi
  exact isDB_t.mp (skL_all (q := fun i => isDB (b i)) (L := L) (p := s) (by omega) (by omega))
/-- the kinds of things -/
theorem thS_cases (b : Nat → Int) (L s : Nat) : (L ≤ s ∧ thS b L s = -1) ∨ (s < L ∧ isLB (b s) = true ∧ (thS b L s = 3000 ∨ ∃ i : Nat, i < 30 ∧ thS b L s = 1000 + (i : Int))) ∨ (s < L ∧ isLB (b s) = false ∧ isDB (b s) = true ∧ ((3 < enT b L s - s ∧ thS b L s = 3000) ∨ (enT b L s - s ≤ 3 ∧ thS b L s = nuB b s (enT b L s - s) ∧ 0 ≤ thS b L s ∧ thS b L s ≤ 999))) ∨ (s < L ∧ isLB (b s) = false ∧ isDB (b s) = false ∧ thS b L s = 2000 + b s) := by
  by_cases h : L ≤ s
  · exact Or.inl ⟨h, by unfold thS; rw [if_pos h]⟩
  · refine Or.inr ?_
    have hlt : s < L := by omega
    cases hl : isLB (b s) with
    | true =>
      refine Or.inl ⟨hlt, rfl, ?_⟩
      rw [show thS b L s = wixL b s (enT b L s) wds 0 by unfold thS; rw [if_neg h, if_pos hl]]
      exact wix_rng
    | false =>
      refine Or.inr ?_
      cases hd : isDB (b s) with
      | true =>
        refine Or.inl ⟨hlt, rfl, rfl, ?_⟩
        by_cases q : 3 < enT b L s - s
        · exact Or.inl ⟨q, by unfold thS; rw [if_neg h, if_neg (by rw [hl]; decide), if_pos hd, if_pos q]⟩
        · have e : thS b L s = nuB b s (enT b L s - s) := by unfold thS; rw [if_neg h, if_neg (by rw [hl]; decide), if_pos hd, if_neg q]
          have := nuB_rng (dg_all hlt hd) (by omega)
          exact Or.inr ⟨by omega, e, by omega, by omega⟩
      | false => exact Or.inr ⟨hlt, rfl, rfl, by unfold thS; rw [if_neg h, if_neg (by rw [hl]; decide), if_neg (by rw [hd]; decide)]⟩
theorem thT_rng {b : Nat → Int} {L k : Nat} (hB : ∀ i, i < L → 0 ≤ b i ∧ b i ≤ 255) : -1 ≤ thT b L k ∧ thT b L k ≤ 3000 := by
  unfold thT
  rcases thS_cases b L (stT b L k) with ⟨_, q⟩ | ⟨_, _, q | ⟨i, q1, q⟩⟩ | ⟨_, _, _, ⟨_, q⟩ | ⟨_, _, q1, q2⟩⟩ | ⟨q1, _, _, q⟩
  · omega
  · omega
  · omega
  · omega
  · omega
  · have := hB _ q1
    omega
/-- a word stands there -/
theorem thS_w {b : Nat → Int} {L s i : Nat} (hi : i < 30) (h : s < L) (hl : isLB (b s) = true) : thS b L s = 1000 + (i : Int) ↔ runEq b (enT b L s) (wds.getD i []) s = true := by
  rw [show thS b L s = wixL b s (enT b L s) wds 0 by unfold thS; rw [if_neg (by omega), if_pos hl]]
  exact wix_is hi
