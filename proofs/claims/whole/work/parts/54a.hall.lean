/-! PLACES: matchings, and Hall's condition -/
theorem cntB_del {P : Nat → Bool} {x : Nat} (hx : P x = true) : ∀ {n : Nat}, x < n → cntB (fun k => P k && !decide (k = x)) n + 1 = cntB P n
  | 0, h => absurd h (Nat.not_lt_zero _)
  | n + 1, h => by
    by_cases e : x = n
    · subst e
      rw [cntB_t hx, cntB_f (by simp), cntB_cong (q := P) (fun k hk => by simp; omega)]
    · have ih := cntB_del hx (n := n) (by omega)
      cases hp : P n
      · rw [cntB_f hp, cntB_f (by simp [hp])]; exact ih
      · rw [cntB_t hp, cntB_t (by simp [hp]; omega)]; omega
/-- counting by an injection -/
theorem cnt_inj {P : Nat → Bool} (g : Nat → Nat) {N : Nat} : ∀ (n : Nat) (Q : Nat → Bool), (∀ c, c < n → P c = true → g c < N ∧ Q (g c) = true) → (∀ a b, a < n → b < n → P a = true → P b = true → g a = g b → a = b) → cntB P n ≤ cntB Q N
  | 0, _, _, _ => Nat.zero_le _
  | n + 1, Q, h1, h2 => by
    cases hp : P n
    · rw [cntB_f hp]
      exact cnt_inj g n Q (fun c hc => h1 c (by omega)) (fun a b ha hb => h2 a b (by omega) (by omega))
    · obtain ⟨a1, a2⟩ := h1 n (Nat.lt_succ_self n) hp
      rw [cntB_t hp, ← cntB_del a2 a1]
      have := cnt_inj g n (fun k => Q k && !decide (k = g n)) (fun c hc hpc => by
        obtain ⟨b1, b2⟩ := h1 c (by omega) hpc
        refine ⟨b1, ?_⟩
        have : g c ≠ g n := fun e => by have := h2 c n (by omega) (Nat.lt_succ_self n) hpc hp e; omega
        simp [b2, this]) (fun a b ha hb => h2 a b (by omega) (by omega))
      omega
theorem cntB_true (n : Nat) : cntB (fun _ => true) n = n := by
  induction n with
  | zero => rfl
  | succ n ih => rw [cntB_t rfl, ih]
theorem cntB_lt_of {P : Nat → Bool} {n k : Nat} (hk : k < n) (h : P k = false) : cntB P n < n := by
  have h1 := cntB_del (P := fun j => P j || decide (j = k)) (x := k) (by simp) (n := n) hk
  have h2 : cntB (fun j => (P j || decide (j = k)) && !decide (j = k)) n = cntB P n := cntB_cong (fun j _ => by
    by_cases e : j = k
    · subst e; simp [h]
    · simp [e])
  have h3 := cntB_le (fun j => P j || decide (j = k)) n
  omega
theorem cntB_add {P : Nat → Bool} {n k : Nat} (hk : k < n) (h : P k = false) : cntB (fun j => P j || decide (j = k)) n = cntB P n + 1 := by
  have h1 := cntB_del (P := fun j => P j || decide (j = k)) (x := k) (by simp) (n := n) hk
  have h2 : cntB (fun j => (P j || decide (j = k)) && !decide (j = k)) n = cntB P n := cntB_cong (fun j _ => by
    by_cases e : j = k
    · subst e; simp [h]
    · simp [e])
  omega
/-- whether there is one below n -/
def exB (p : Nat → Bool) (n : Nat) : Bool := decide (0 < cntB p n)
theorem exB_iff {p : Nat → Bool} : ∀ {n : Nat}, exB p n = true ↔ ∃ k, k < n ∧ p k = true
  | 0 => ⟨fun h => by simp [exB, cntB_0] at h, fun ⟨_, h, _⟩ => absurd h (Nat.not_lt_zero _)⟩
  | n + 1 => by
    have ih := exB_iff (p := p) (n := n)
    constructor
    · intro h
      cases hp : p n
      · have h2 : exB p n = true := by unfold exB at h ⊢; rw [cntB_f hp] at h; exact h
        obtain ⟨k, h3, h4⟩ := ih.mp h2
        exact ⟨k, by omega, h4⟩
      · exact ⟨n, Nat.lt_succ_self n, hp⟩
    · rintro ⟨k, h1, h2⟩
      unfold exB
      refine decide_eq_true ?_
      cases hp : p n
      · rw [cntB_f hp]
        have e : k ≠ n := fun e => by rw [e, hp] at h2; cases h2
        exact of_decide_eq_true (ih.mpr ⟨k, by omega, h2⟩)
      · rw [cntB_t hp]; omega
/-- a matching of S -/
def Mat (my : Nat → Nat → Bool) (S : Nat → Bool) (K : Nat → Int) : Prop :=
  (∀ k, k < 60 → K k = -1 ∨ ∃ x : Nat, K k = (x : Int) ∧ x < 8 ∧ S x = true ∧ my x k = true) ∧
  (∀ a b, a < 60 → b < 60 → K a = K b → K a ≠ -1 → a = b) ∧
  (∀ x : Nat, x < 8 → S x = true → ∃ k, k < 60 ∧ K k = (x : Int))
/-- those asked for by some of O -/
def nbr (my : Nat → Nat → Bool) (O : Nat → Bool) (k : Nat) : Bool := exB (fun x => O x && my x k) 8
theorem nbr_iff {my : Nat → Nat → Bool} {O : Nat → Bool} {k : Nat} : nbr my O k = true ↔ ∃ x, x < 8 ∧ O x = true ∧ my x k = true := by
  unfold nbr
  rw [exB_iff]
  simp only [Bool.and_eq_true]
def Hal (my : Nat → Nat → Bool) (S : Nat → Bool) : Prop := ∀ O : Nat → Bool, (∀ x, x < 8 → O x = true → S x = true) → cntB O 8 ≤ cntB (nbr my O) 60
theorem Hal.sub {my : Nat → Nat → Bool} {S S' : Nat → Bool} (h : Hal my S) (hs : ∀ x, x < 8 → S' x = true → S x = true) : Hal my S' := fun O hO => h O (fun x hx ho => hs x hx (hO x hx ho))
theorem Mat.hal {my : Nat → Nat → Bool} {S : Nat → Bool} {K : Nat → Int} (h : Mat my S K) : Hal my S := by
  intro O hO
  have hg : ∀ x : Nat, ∃ k, x < 8 → S x = true → k < 60 ∧ K k = (x : Int) := fun x => by
    by_cases h1 : x < 8 ∧ S x = true
    · obtain ⟨k, h2, h3⟩ := h.2.2 x h1.1 h1.2
      exact ⟨k, fun _ _ => ⟨h2, h3⟩⟩
    · exact ⟨0, fun a b => absurd ⟨a, b⟩ h1⟩
  refine cnt_inj (fun x => Classical.choose (hg x)) 8 _ (fun x hx ho => ?_) (fun a b ha hb hoa hob e => ?_)
  · obtain ⟨h2, h3⟩ := Classical.choose_spec (hg x) hx (hO x hx ho)
    refine ⟨h2, nbr_iff.mpr ⟨x, hx, ho, ?_⟩⟩
    rcases h.1 _ h2 with e | ⟨y, e, _, _, h5⟩
    · omega
    · have e3 : x = y := by omega
      exact e3 ▸ h5
  · obtain ⟨_, h3⟩ := Classical.choose_spec (hg a) ha (hO a ha hoa)
    obtain ⟨_, h4⟩ := Classical.choose_spec (hg b) hb (hO b hb hob)
    rw [e, h4] at h3
    omega
/-- what has been reached -/
def BF (my : Nat → Nat → Bool) (c : Nat) (K : Nat → Int) (r : Nat) (R : Nat → Nat) (T : Nat → Bool) (C : Nat → Int) : Prop :=
  (∀ m, m < r → R m < 60) ∧ (∀ k, k < 60 → (T k = true ↔ ∃ m, m < r ∧ R m = k)) ∧ (∀ a b, a < r → b < r → R a = R b → a = b) ∧ r = cntB T 60 ∧
  (∀ m, m < r → (C (R m) = -1 ∧ my c (R m) = true) ∨ ∃ m' x : Nat, m' < m ∧ C (R m) = (R m' : Int) ∧ K (R m') = (x : Int) ∧ my x (R m) = true)
def updN (f : Nat → Nat) (i v : Nat) : Nat → Nat := fun j => if j = i then v else f j
theorem updN_s (f : Nat → Nat) (i v : Nat) : updN f i v i = v := by simp [updN]
theorem updN_n {f : Nat → Nat} {i j v : Nat} (h : j ≠ i) : updN f i v j = f j := by simp [updN, h]
theorem BF.le {my : Nat → Nat → Bool} {c : Nat} {K : Nat → Int} {r : Nat} {R : Nat → Nat} {T : Nat → Bool} {C : Nat → Int} (h : BF my c K r R T C) : r ≤ 60 := by rw [h.2.2.2.1]; exact cntB_le _ _
theorem BF.lt {my : Nat → Nat → Bool} {c : Nat} {K : Nat → Int} {r : Nat} {R : Nat → Nat} {T : Nat → Bool} {C : Nat → Int} (h : BF my c K r R T C) {k : Nat} (hk : k < 60) (hT : T k = false) : r < 60 := by rw [h.2.2.2.1]; exact cntB_lt_of hk hT
theorem BF.add {my : Nat → Nat → Bool} {c : Nat} {K : Nat → Int} {r : Nat} {R : Nat → Nat} {T : Nat → Bool} {C : Nat → Int} (h : BF my c K r R T C) {k : Nat} {v : Int} (hk : k < 60) (hT : T k = false)
    (hv : (v = -1 ∧ my c k = true) ∨ ∃ m' x : Nat, m' < r ∧ v = (R m' : Int) ∧ K (R m') = (x : Int) ∧ my x k = true) : BF my c K (r + 1) (updN R r k) (fun j => T j || decide (j = k)) (updW C k v) := by
  obtain ⟨h1, h2, h3, h4, h5⟩ := h
  have hne : ∀ m, m < r → R m ≠ k := fun m hm e => by
    have := (h2 k hk).mpr ⟨m, hm, e⟩
    rw [hT] at this; cases this
  refine ⟨fun m hm => ?_, fun j hj => ?_, fun a b ha hb e => ?_, ?_, fun m hm => ?_⟩
  · by_cases e : m = r
    · rw [e, updN_s]; exact hk
    · rw [updN_n e]; exact h1 m (by omega)
  · rw [Bool.or_eq_true, h2 j hj, decide_eq_true_eq]
    constructor
    · rintro (⟨m, hm, e⟩ | e)
      · exact ⟨m, by omega, by rw [updN_n (by omega)]; exact e⟩
      · exact ⟨r, Nat.lt_succ_self r, by rw [updN_s, e]⟩
    · rintro ⟨m, hm, e⟩
      by_cases e2 : m = r
      · rw [e2, updN_s] at e; exact Or.inr e.symm
      · rw [updN_n e2] at e; exact Or.inl ⟨m, by omega, e⟩
  · by_cases ea : a = r
    · by_cases eb : b = r
      · rw [ea, eb]
      · rw [ea, updN_s, updN_n eb] at e; exact absurd e.symm (hne b (by omega))
    · by_cases eb : b = r
      · rw [eb, updN_s, updN_n ea] at e; exact absurd e (hne a (by omega))
      · rw [updN_n ea, updN_n eb] at e; exact h3 a b (by omega) (by omega) e
  · rw [cntB_add hk hT, h4]
  · by_cases e : m = r
    · subst e
      rw [updN_s, updW_s]
      rcases hv with hv | ⟨m', x, a1, a2, a3, a4⟩
      · exact Or.inl hv
      · exact Or.inr ⟨m', x, a1, by rw [updN_n (by omega)]; exact a2, by rw [updN_n (by omega)]; exact a3, a4⟩
    · rw [updN_n e, updW_n (hne m (by omega))]
      rcases h5 m (by omega) with h6 | ⟨m', x, a1, a2, a3, a4⟩
      · exact Or.inl h6
      · exact Or.inr ⟨m', x, a1, by rw [updN_n (by omega)]; exact a2, by rw [updN_n (by omega)]; exact a3, a4⟩
theorem BF.emp (my : Nat → Nat → Bool) (c : Nat) (K : Nat → Int) (R : Nat → Nat) (C : Nat → Int) : BF my c K 0 R (fun _ => false) C :=
  ⟨fun _ h => absurd h (Nat.not_lt_zero _), fun _ _ => ⟨(fun h => nomatch h), fun ⟨_, h, _⟩ => absurd h (Nat.not_lt_zero _)⟩, fun _ _ h => absurd h (Nat.not_lt_zero _), rfl, fun _ h => absurd h (Nat.not_lt_zero _)⟩
theorem BF.cong {my : Nat → Nat → Bool} {c : Nat} {K : Nat → Int} {r : Nat} {R R' : Nat → Nat} {T T' : Nat → Bool} {C C' : Nat → Int} (h : BF my c K r R T C) (h1 : ∀ m, m < r → R' m = R m) (h2 : ∀ k, k < 60 → T' k = T k) (h3 : ∀ m, m < r → C' (R m) = C (R m)) : BF my c K r R' T' C' := by
  obtain ⟨a1, a2, a3, a4, a5⟩ := h
  refine ⟨fun m hm => by rw [h1 m hm]; exact a1 m hm, fun k hk => ?_, fun a b ha hb e => a3 a b ha hb (by rw [← h1 a ha, ← h1 b hb]; exact e), by rw [a4]; exact cntB_cong (fun k hk => (h2 k hk).symm), fun m hm => ?_⟩
  · rw [h2 k hk, a2 k hk]
    constructor
    · rintro ⟨m, hm, e⟩; exact ⟨m, hm, by rw [h1 m hm]; exact e⟩
    · rintro ⟨m, hm, e⟩; exact ⟨m, hm, by rw [← h1 m hm]; exact e⟩
  · rw [h1 m hm, h3 m hm]
    rcases a5 m hm with q | ⟨m', x, b1, b2, b3, b4⟩
    · exact Or.inl q
    · exact Or.inr ⟨m', x, b1, by rw [h1 m' (by omega)]; exact b2, by rw [h1 m' (by omega)]; exact b3, b4⟩
/-- nothing free was reached: too few places -/
theorem BF.full {my : Nat → Nat → Bool} {c : Nat} {K : Nat → Int} {r : Nat} {R : Nat → Nat} {T : Nat → Bool} {C : Nat → Int} {S : Nat → Bool} (h : BF my c K r R T C) (hM : Mat my S K) (hc : c < 8) (hSc : S c = false)
    (h7 : ∀ k, k < 60 → my c k = true → T k = true) (h8 : ∀ m, m < r → ∃ x : Nat, K (R m) = (x : Int) ∧ ∀ k, k < 60 → my x k = true → T k = true) : ¬ Hal my (fun x => S x || decide (x = c)) := by
  intro hH
  obtain ⟨h1, h2, h3, h4, h5⟩ := h
  have hO := hH (fun x => decide (x = c) || exB (fun m => decide (K (R m) = (x : Int))) r) (fun x hx ho => by
    rw [Bool.or_eq_true, decide_eq_true_eq, exB_iff] at ho
    simp only [decide_eq_true_eq] at ho
    rw [Bool.or_eq_true, decide_eq_true_eq]
    rcases ho with e | ⟨m, hm, e⟩
    · exact Or.inr e
    · rcases hM.1 (R m) (h1 m hm) with e2 | ⟨y, e2, _, e3, _⟩
      · omega
      · rw [show x = y by omega]; exact Or.inl e3)
  have hup : cntB (nbr my (fun x => decide (x = c) || exB (fun m => decide (K (R m) = (x : Int))) r)) 60 ≤ r := by
    refine Nat.le_trans ?_ (Nat.le_of_eq h4.symm)
    refine cnt_inj (fun k => k) 60 _ (fun k hk hn => ⟨hk, ?_⟩) (fun a b _ _ _ _ e => e)
    obtain ⟨x, hx, ho, hm⟩ := nbr_iff.mp hn
    rw [Bool.or_eq_true, decide_eq_true_eq, exB_iff] at ho
    simp only [decide_eq_true_eq] at ho
    rcases ho with e | ⟨m, hm2, e⟩
    · subst e; exact h7 k hk hm
    · obtain ⟨y, e2, h9⟩ := h8 m hm2
      rw [show x = y by omega] at hm
      exact h9 k hk hm
  have hlo : r + 1 ≤ cntB (fun x => decide (x = c) || exB (fun m => decide (K (R m) = (x : Int))) r) 8 := by
    have := cnt_inj (P := fun _ => true) (fun m => if m < r then (K (R m)).toNat else c) (N := 8) (r + 1) (fun x => decide (x = c) || exB (fun m => decide (K (R m) = (x : Int))) r) (fun m hm _ => by
      by_cases e : m < r
      · rw [if_pos e]
        rcases hM.1 (R m) (h1 m e) with e2 | ⟨y, e2, e4, e3, _⟩
        · obtain ⟨x, e5, _⟩ := h8 m e; omega
        · refine ⟨by omega, ?_⟩
          rw [Bool.or_eq_true, exB_iff]
          exact Or.inr ⟨m, e, decide_eq_true (by omega)⟩
      · rw [if_neg e]
        exact ⟨hc, by simp⟩) (fun a b ha hb _ _ e => by
      by_cases ea : a < r
      · by_cases eb : b < r
        · rw [if_pos ea, if_pos eb] at e
          obtain ⟨x, e5, _⟩ := h8 a ea
          obtain ⟨y, e6, _⟩ := h8 b eb
          exact h3 a b ea eb (hM.2.1 _ _ (h1 a ea) (h1 b eb) (by omega) (by omega))
        · rw [if_pos ea, if_neg eb] at e
          rcases hM.1 (R a) (h1 a ea) with e2 | ⟨y, e2, e4, e3, _⟩
          · obtain ⟨x, e5, _⟩ := h8 a ea; omega
          · rw [show y = c by omega, hSc] at e3; cases e3
      · by_cases eb : b < r
        · rw [if_neg ea, if_pos eb] at e
          rcases hM.1 (R b) (h1 b eb) with e2 | ⟨y, e2, e4, e3, _⟩
          · obtain ⟨x, e5, _⟩ := h8 b eb; omega
          · rw [show y = c by omega, hSc] at e3; cases e3
        · omega)
    rw [cntB_true] at this
    exact this
  omega
/-- others give way, one behind another -/
def AU (my : Nat → Nat → Bool) (S : Nat → Bool) (R : Nat → Nat) (K Kf : Nat → Int) (m : Nat) : Prop :=
  (∀ k, k < 60 → k ≠ R m → Kf k = -1 ∨ ∃ x : Nat, Kf k = (x : Int) ∧ x < 8 ∧ S x = true ∧ my x k = true) ∧
  (∀ a b, a < 60 → b < 60 → a ≠ R m → b ≠ R m → Kf a = Kf b → Kf a ≠ -1 → a = b) ∧
  (∀ x : Nat, x < 8 → S x = true → ∃ k, k < 60 ∧ k ≠ R m ∧ Kf k = (x : Int)) ∧ ∀ m', m' < m → Kf (R m') = K (R m')
theorem AU.start {my : Nat → Nat → Bool} {S : Nat → Bool} {R : Nat → Nat} {K : Nat → Int} {m : Nat} (hM : Mat my S K) (hm : K (R m) = -1) : AU my S R K K m :=
  ⟨fun k hk _ => hM.1 k hk, fun a b ha hb _ _ => hM.2.1 a b ha hb, fun x hx hs => by
    obtain ⟨k, h1, h2⟩ := hM.2.2 x hx hs
    exact ⟨k, h1, fun e => by rw [e] at h2; omega, h2⟩, fun _ _ => rfl⟩
theorem AU.step {my : Nat → Nat → Bool} {c r : Nat} {S : Nat → Bool} {R : Nat → Nat} {T : Nat → Bool} {C K Kf : Nat → Int} {m m' x : Nat} (hB : BF my c K r R T C) (h : AU my S R K Kf m) (hm : m < r) (hm' : m' < m) (hx : K (R m') = (x : Int)) (hmy : my x (R m) = true) : AU my S R K (updW Kf (R m) (Kf (R m'))) m' := by
  obtain ⟨h1, h2, h3, h4⟩ := h
  have hne : ∀ a, a < r → a ≠ m → R a ≠ R m := fun a ha e e2 => e (hB.2.2.1 a m ha hm e2)
  have hRm := hB.1 m hm
  have hRm' := hB.1 m' (by omega)
  have hn := hne m' (by omega) (by omega)
  have hxv : Kf (R m') = (x : Int) := by rw [h4 m' hm']; exact hx
  have hxs : x < 8 ∧ S x = true := by
    rcases h1 (R m') hRm' hn with e | ⟨y, e, a, b, _⟩
    · omega
    · rw [show x = y by omega]; exact ⟨a, b⟩
  refine ⟨fun k hk hkn => ?_, fun a b ha hb han hbn e hne1 => ?_, fun y hy hs => ?_, fun m'' hmm => ?_⟩
  · by_cases e : k = R m
    · subst e; rw [updW_s]; exact Or.inr ⟨x, hxv, hxs.1, hxs.2, hmy⟩
    · rw [updW_n e]; exact h1 k hk e
  · by_cases ea : a = R m
    · by_cases eb : b = R m
      · rw [ea, eb]
      · rw [ea, updW_s, updW_n eb] at e
        have := h2 (R m') b hRm' hb hn eb e (by omega)
        exact absurd this.symm hbn
    · by_cases eb : b = R m
      · rw [eb, updW_s, updW_n ea] at e
        have := h2 (R m') a hRm' ha hn ea e.symm (by omega)
        exact absurd this.symm han
      · rw [updW_n ea, updW_n eb] at e
        rw [updW_n ea] at hne1
        exact h2 a b ha hb ea eb e hne1
  · obtain ⟨k, a1, a2, a3⟩ := h3 y hy hs
    by_cases e : k = R m'
    · refine ⟨R m, hRm, fun e2 => hn e2.symm, ?_⟩
      rw [updW_s, ← e]; exact a3
    · exact ⟨k, a1, e, by rw [updW_n a2]; exact a3⟩
  · rw [updW_n (hne m'' (by omega) (by omega))]; exact h4 m'' (by omega)
theorem AU.fin {my : Nat → Nat → Bool} {S : Nat → Bool} {R : Nat → Nat} {K Kf : Nat → Int} {m c : Nat} (h : AU my S R K Kf m) (hR : R m < 60) (hc : c < 8) (hSc : S c = false) (hmy : my c (R m) = true) : Mat my (fun x => S x || decide (x = c)) (updW Kf (R m) (c : Int)) := by
  obtain ⟨h1, h2, h3, -⟩ := h
  have hno : ∀ k, k < 60 → k ≠ R m → Kf k ≠ (c : Int) := fun k hk hn e => by
    rcases h1 k hk hn with e2 | ⟨y, e2, _, e3, _⟩
    · omega
    · rw [show y = c by omega, hSc] at e3; cases e3
  refine ⟨fun k hk => ?_, fun a b ha hb e hne => ?_, fun x hx hs => ?_⟩
  · by_cases e : k = R m
    · subst e; rw [updW_s]; exact Or.inr ⟨c, rfl, hc, by simp, hmy⟩
    · rw [updW_n e]
      rcases h1 k hk e with e2 | ⟨y, e2, e3, e4, e5⟩
      · exact Or.inl e2
      · exact Or.inr ⟨y, e2, e3, by simp [e4], e5⟩
  · by_cases ea : a = R m
    · by_cases eb : b = R m
      · rw [ea, eb]
      · rw [ea, updW_s, updW_n eb] at e; exact absurd e.symm (hno b hb eb)
    · by_cases eb : b = R m
      · rw [eb, updW_s, updW_n ea] at e; exact absurd e (hno a ha ea)
      · rw [updW_n ea, updW_n eb] at e
        rw [updW_n ea] at hne
        exact h2 a b ha hb ea eb e hne
  · rw [Bool.or_eq_true, decide_eq_true_eq] at hs
    by_cases e : x = c
    · exact ⟨R m, hR, by rw [updW_s, e]⟩
    · rcases hs with hs | hs
      · obtain ⟨k, a1, a2, a3⟩ := h3 x hx hs
        exact ⟨k, a1, by rw [updW_n a2]; exact a3⟩
      · exact absurd hs e
theorem Mat.cong {my : Nat → Nat → Bool} {S S' : Nat → Bool} {K K' : Nat → Int} (h : Mat my S K) (h1 : ∀ x, x < 8 → S' x = S x) (h2 : ∀ k, k < 60 → K' k = K k) : Mat my S' K' := by
  refine ⟨fun k hk => ?_, fun a b ha hb e hn => ?_, fun x hx hs => ?_⟩
  · rw [h2 k hk]
    rcases h.1 k hk with e | ⟨x, e, a, b, c⟩
    · exact Or.inl e
    · exact Or.inr ⟨x, e, a, by rw [h1 x a]; exact b, c⟩
  · rw [h2 a ha, h2 b hb] at e
    rw [h2 a ha] at hn
    exact h.2.1 a b ha hb e hn
  · rw [h1 x hx] at hs
    obtain ⟨k, a, b⟩ := h.2.2 x hx hs
    exact ⟨k, a, by rw [h2 k a]; exact b⟩
theorem Mat.emp (my : Nat → Nat → Bool) : Mat my (fun _ => false) (fun _ => -1) := ⟨fun _ _ => Or.inl rfl, fun _ _ _ _ _ h => absurd rfl h, fun _ _ h => nomatch h⟩
