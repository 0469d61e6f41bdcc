/-! SAVED: both ways of asking for places; the order of worth -/
theorem subP_iff {s part : Nat} (hs : s < 256) (hp : part < 256) : subP s part = true ↔ ∀ k, k < 8 → part.testBit k = true → s.testBit k = true := by
  unfold subP
  rw [decide_eq_true_eq]
  have hb : ∀ n : Nat, n < 256 → ∀ k, 8 ≤ k → n.testBit k = false := fun n hn k hk => Nat.testBit_lt_two_pow (Nat.lt_of_lt_of_le hn (Nat.pow_le_pow_right (n := 2) (by omega) hk))
  constructor
  · intro h k hk hpk
    have : tb (andI (part : Int) (xorI (s : Int) (-1))) k = false := by rw [h, tb_0]
    rw [tb_and, tb_xor, tb_nat (by omega), tb_nat (by omega), tb_m1 k (by omega), hpk] at this
    simpa using this
  · intro h
    refine tb_ext (in32_andI _ _) (by unfold in32; omega) fun k hk => ?_
    rw [tb_0, tb_and, tb_xor, tb_nat hk, tb_nat hk, tb_m1 k hk]
    by_cases h8 : k < 8
    · cases hpk : part.testBit k
      · rfl
      · rw [h k h8 hpk]; rfl
    · rw [hb part hp k (by omega)]; rfl
theorem ofor_bit {w : Nat → Int} {part k : Nat} (hk : k < 60) : ∀ n, n ≤ 8 → ((orn w (part : Int) n).testBit k = true ↔ ∃ c, c < n ∧ part.testBit c = true ∧ opnP w c k = true)
  | 0, _ => by
    rw [show orn w (part : Int) 0 = 0 from rfl, Nat.zero_testBit]
    exact ⟨fun h => (nomatch h), fun ⟨_, h, _⟩ => absurd h (Nat.not_lt_zero _)⟩
  | n + 1, hn => by
    have ih := ofor_bit (w := w) (part := part) hk n (by omega)
    cases hp : tb (part : Int) n
    · rw [orn_f hp, ih]
      rw [tb_nat (by omega)] at hp
      constructor
      · rintro ⟨c, h1, h2, h3⟩; exact ⟨c, by omega, h2, h3⟩
      · rintro ⟨c, h1, h2, h3⟩
        by_cases e : c = n
        · rw [e, hp] at h2; cases h2
        · exact ⟨c, by omega, h2, h3⟩
    · rw [orn_t hp, Nat.testBit_or, Bool.or_eq_true, ih]
      rw [tb_nat (by omega)] at hp
      unfold opn
      rw [nset_bit]
      constructor
      · rintro (⟨c, h1, h2, h3⟩ | h)
        · exact ⟨c, by omega, h2, h3⟩
        · simp only [Bool.and_eq_true] at h; exact ⟨n, Nat.lt_succ_self n, hp, h.2⟩
      · rintro ⟨c, h1, h2, h3⟩
        by_cases e : c = n
        · subst e; exact Or.inr (by simp [h3, hk])
        · exact Or.inl ⟨c, by omega, h2, h3⟩
theorem cntB_up {p : Nat → Bool} {a b : Nat} (hab : a ≤ b) (h : ∀ k, a ≤ k → k < b → p k = false) : cntB p b = cntB p a := by
  induction b with
  | zero => rw [show a = 0 by omega]
  | succ b ih =>
    by_cases e : a = b + 1
    · rw [e]
    · rw [cntB_f (h b (by omega) (Nat.lt_succ_self b)), ih (by omega) (fun k h1 h2 => h k h1 (by omega))]
theorem cntB_imp {p q : Nat → Bool} {n : Nat} (h : ∀ k, k < n → p k = true → q k = true) : cntB p n ≤ cntB q n := cnt_inj (fun k => k) n q (fun k hk hp => ⟨hk, h k hk hp⟩) (fun _ _ _ _ _ _ e => e)
theorem hrB_hal {w : Nat → Int} (hf : WF w) {A s : Nat} {my : Nat → Nat → Bool} (hs : s < 256) (hsub : ∀ c : Nat, s.testBit c = true → (c : Int) < w 1) (hmy : ∀ c, c < 8 → s.testBit c = true → ∀ k, k < 60 → (opnP w c k && A.testBit k) = my c k) : hrB w A s = true ↔ Hal my (fun c => s.testBit c) := by
  have hc := hf.cas
  have key : ∀ part : Nat, part < 256 → (∀ k, k < 8 → part.testBit k = true → s.testBit k = true) → pcN (ofor w (part : Int) &&& A) = cntB (nbr my (fun c => part.testBit c)) 60 := by
    intro part hp hps
    unfold pcN
    have hlt : ofor w (part : Int) &&& A < 2 ^ 60 := Nat.lt_of_le_of_lt Nat.and_le_left (orn_lt w _ _)
    rw [cntB_up (a := 60) (b := 64) (by omega) (fun k h1 h2 => Nat.testBit_lt_two_pow (Nat.lt_of_lt_of_le hlt (Nat.pow_le_pow_right (n := 2) (by omega) h1)))]
    refine cntB_cong fun k hk => ?_
    have h1 := ofor_bit (w := w) (part := part) hk (w 1).toNat (by omega)
    have h2 := nbr_iff (my := my) (O := fun c => part.testBit c) (k := k)
    rw [Nat.testBit_and]
    rw [Bool.eq_iff_iff, h2, Bool.and_eq_true]
    constructor
    · rintro ⟨a, b⟩
      obtain ⟨c, c1, c2, c3⟩ := h1.mp a
      have c4 := hps c (by omega) c2
      exact ⟨c, by omega, c2, by rw [← hmy c (by omega) c4 k hk, c3, b]; rfl⟩
    · rintro ⟨c, c1, c2, c3⟩
      have c4 := hps c c1 c2
      have c5 := hsub c c4
      rw [← hmy c c1 c4 k hk, Bool.and_eq_true] at c3
      exact ⟨h1.mpr ⟨c, by omega, c2, c3.1⟩, c3.2⟩
  unfold hrB
  rw [decide_eq_true_eq]
  constructor
  · intro h O hO
    by_cases h0 : cntB O 8 = 0
    · omega
    · have hp := nset8 O (n := 8) (Nat.le_refl _)
      have hbit : ∀ k, k < 8 → (nset O 8).testBit k = O k := fun k hk => by rw [nset_bit]; simp [hk]
      have hps : ∀ k, k < 8 → (nset O 8).testBit k = true → s.testBit k = true := fun k hk hb => hO k hk (by rw [← hbit k hk]; exact hb)
      have hle : nset O 8 ≤ s := by
        have : nset O 8 &&& s = nset O 8 := by
          apply Nat.eq_of_testBit_eq
          intro i
          rw [Nat.testBit_and]
          cases hb : (nset O 8).testBit i
          · rfl
          · have hi : i < 8 := by
              rw [nset_bit] at hb
              simp only [Bool.and_eq_true, decide_eq_true_eq] at hb
              exact hb.1
            rw [hps i hi hb]; rfl
        rw [← this]
        exact Nat.and_le_right
      have h1 : 1 ≤ nset O 8 := by
        rcases Nat.eq_zero_or_pos (nset O 8) with e | e
        · exfalso
          apply h0
          have : cntB O 8 = cntB (fun _ => false) 8 := cntB_cong (fun k hk => by rw [← hbit k hk, e, Nat.zero_testBit])
          rw [this]
          rfl
        · exact e
      have h2 := h _ hle h1
      unfold hrP at h2
      rw [(subP_iff hs hp).mpr hps, Bool.true_and, Bool.not_eq_true', decide_eq_false_iff_not, key _ hp hps] at h2
      have h3 : cntB O 8 = pc8 (nset O 8) := by unfold pc8; exact cntB_cong (fun k hk => (hbit k hk).symm)
      have h4 : cntB (nbr my (fun c => (nset O 8).testBit c)) 60 ≤ cntB (nbr my O) 60 := cntB_imp (fun k _ hn => by
        obtain ⟨x, x1, x2, x3⟩ := nbr_iff.mp hn
        exact nbr_iff.mpr ⟨x, x1, by rw [← hbit x x1]; exact x2, x3⟩)
      omega
  · intro h part hle h1
    have hp : part < 256 := by omega
    unfold hrP
    rw [Bool.not_eq_true', Bool.and_eq_false_iff]
    cases hsp : subP s part
    · exact Or.inl rfl
    · right
      have hps := (subP_iff hs hp).mp hsp
      rw [decide_eq_false_iff_not, key part hp hps]
      have := h (fun c => part.testBit c) hps
      unfold pc8
      omega
/-- those asked so far: of more worth, or of like worth and lesser number -/
def asd (w : Nat → Int) (t : Int) (c x : Nat) : Bool := decide ((x : Int) < w 1) && (decide (w (104 + 7 * x) = 0) && (decide (t < w (102 + 7 * x)) || (decide (w (102 + 7 * x) = t) && decide (x < c))))
def smS (w : Nat → Int) (t : Int) (c a : Nat) : Nat := if w (104 + 7 * c) = 0 ∧ w (102 + 7 * c) = t ∧ hrB w FULL (a ||| 2 ^ c) = true then a ||| 2 ^ c else a
def smC (w : Nat → Int) (t : Int) (a0 : Nat) : Nat → Nat := foldN (smS w t) a0
theorem smC_s (w : Nat → Int) (t : Int) (a0 n : Nat) : smC w t a0 (n + 1) = smS w t n (smC w t a0 n) := rfl
def smT (w : Nat → Int) : Nat → Nat := foldN (fun q a => smC w (99 - (q : Int)) a (w 1).toNat) 0
theorem smT_s (w : Nat → Int) (q : Nat) : smT w (q + 1) = smC w (99 - (q : Int)) (smT w q) (w 1).toNat := rfl
/-- the class has come as far -/
def SvAt (w : Nat → Int) (t : Int) (c a : Nat) : Prop := a = (savF w (cntB (asd w t c) 8)).2 ∧ ∀ x, x < 32 → tb (savF w (cntB (asd w t c) 8)).1 x = asd w t c x
theorem inSt_bit {w : Nat → Int} (hf : WF w) {s : Int} {x : Nat} (hx : x < 32) : tb (inSt w s) x = (decide ((x : Int) < w 1) && decide (w (104 + 7 * x) = s)) := by
  have hc := hf.cas
  unfold inSt
  rw [tb_bset hx (by omega)]
  unfold inStP
  congr 1
  rw [decide_eq_decide]
  omega
theorem sv_no {w : Nat → Int} {t : Int} {c a : Nat} (h : SvAt w t c a) (hn : ¬ (w (104 + 7 * c) = 0 ∧ w (102 + 7 * c) = t ∧ (c : Int) < w 1)) : SvAt w t (c + 1) a := by
  have e : ∀ x, asd w t (c + 1) x = asd w t c x := fun x => by
    unfold asd
    by_cases q : x = c
    · subst q
      have h1 : decide (x < x) = false := by simp
      by_cases a1 : (x : Int) < w 1
      · by_cases a2 : w (104 + 7 * x) = 0
        · by_cases a3 : w (102 + 7 * x) = t
          · exact absurd ⟨a2, a3, a1⟩ hn
          · simp [a3]
        · simp [a2]
      · simp [a1]
    · rw [show decide (x < c + 1) = decide (x < c) by rw [decide_eq_decide]; omega]
  unfold SvAt
  rw [cntB_cong (fun x _ => e x)]
  exact ⟨h.1, fun x hx => by rw [h.2 x hx, e x]⟩
theorem asd_lt {w : Nat → Int} (hf : WF w) {t : Int} {c x : Nat} (h : asd w t c x = true) : x < 8 := by
  have hc := hf.cas
  unfold asd at h
  simp only [Bool.and_eq_true, decide_eq_true_eq] at h
  omega
theorem sv_pick {w : Nat → Int} (hf : WF w) {t : Int} {c a : Nat} (h : SvAt w t c a) (h1 : w (104 + 7 * c) = 0) (h2 : w (102 + 7 * c) = t) (h3 : (c : Int) < w 1) : wrtA w (andI (inSt w 0) (xorI (savF w (cntB (asd w t c) 8)).1 (-1))) = (c : Int) := by
  have hc := hf.cas
  have hb : ∀ x, x < 32 → tb (andI (inSt w 0) (xorI (savF w (cntB (asd w t c) 8)).1 (-1))) x = (decide ((x : Int) < w 1) && (decide (w (104 + 7 * x) = 0) && !asd w t c x)) := fun x hx => by
    rw [tb_and, tb_xor, inSt_bit hf hx, h.2 x hx, tb_m1 x hx, Bool.xor_true, Bool.and_assoc]
  have hp : tb (andI (inSt w 0) (xorI (savF w (cntB (asd w t c) 8)).1 (-1))) c = true := by
    rw [hb c (by omega)]
    have : asd w t c c = false := by unfold asd; simp [h2]
    rw [this]
    simp [h1, h3]
  have b0 := amx_ex (p := fun x => tb (andI (inSt w 0) (xorI (savF w (cntB (asd w t c) 8)).1 (-1))) x) (v := fun x => w (102 + 7 * x)) (n := (w 1).toNat) (k := c) (by omega) hp
  have b1 := amx_p b0
  have b2 := amx_opt (p := fun x => tb (andI (inSt w 0) (xorI (savF w (cntB (asd w t c) 8)).1 (-1))) x) (v := fun x => w (102 + 7 * x)) (n := (w 1).toNat) (k := c) (by omega) hp
  unfold wrtA
  generalize amx (fun x => tb (andI (inSt w 0) (xorI (savF w (cntB (asd w t c) 8)).1 (-1))) x) (fun x => w (102 + 7 * x)) (w 1).toNat = b at b0 b1 b2
  obtain ⟨y, rfl⟩ : ∃ y : Nat, b = (y : Int) := ⟨b.toNat, by omega⟩
  rw [show ((y : Nat) : Int).toNat = y by omega] at b1 b2
  have b3 := b1.2
  rw [hb y (by omega)] at b3
  simp only [Bool.and_eq_true, decide_eq_true_eq, Bool.not_eq_true'] at b3
  have b4 := b3.2.2
  unfold asd at b4
  rw [decide_eq_true b3.1, decide_eq_true b3.2.1, Bool.true_and, Bool.true_and, Bool.or_eq_false_iff, Bool.and_eq_false_iff, decide_eq_false_iff_not, decide_eq_false_iff_not, decide_eq_false_iff_not] at b4
  have : y = c := by
    have := b2.1
    have := b2.2
    omega
  rw [this]
theorem sv_yes {w : Nat → Int} (hf : WF w) {t : Int} {c a : Nat} (h : SvAt w t c a) (h1 : w (104 + 7 * c) = 0) (h2 : w (102 + 7 * c) = t) (h3 : (c : Int) < w 1) : SvAt w t (c + 1) (smS w t c a) := by
  have hc := hf.cas
  have hpk := sv_pick hf h h1 h2 h3
  have e : ∀ x, asd w t (c + 1) x = (asd w t c x || decide (x = c)) := fun x => by
    unfold asd
    by_cases q : x = c
    · subst q; simp [h1, h2, h3]
    · rw [show decide (x < c + 1) = decide (x < c) by rw [decide_eq_decide]; omega]; simp [q]
  have hcn : asd w t c c = false := by unfold asd; simp [h2]
  have en : cntB (asd w t (c + 1)) 8 = cntB (asd w t c) 8 + 1 := by
    rw [cntB_cong (q := fun j => asd w t c j || decide (j = c)) (fun x _ => e x)]
    exact cntB_add (by omega) hcn
  obtain ⟨ha, hb⟩ := h
  have hsv : savS w (savF w (cntB (asd w t c) 8)) = (orI (savF w (cntB (asd w t c) 8)).1 (shlI 1 (c : Int)), if hrB w FULL ((savF w (cntB (asd w t c) 8)).2 ||| 2 ^ ((c : Int)).toNat) then (savF w (cntB (asd w t c) 8)).2 ||| 2 ^ ((c : Int)).toNat else (savF w (cntB (asd w t c) 8)).2) := by
    unfold savS
    rw [hpk]
    exact if_pos (by omega)
  unfold SvAt
  rw [en, savF_s, hsv]
  refine ⟨?_, fun x hx => ?_⟩
  · rw [← ha, show ((c : Nat) : Int).toNat = c by omega]
    unfold smS
    cases hh : hrB w FULL (a ||| 2 ^ c)
    · rw [if_neg (fun q => by simp at q), if_neg (by decide)]
    · rw [if_pos ⟨h1, h2, rfl⟩, if_pos rfl]
  · rw [tb_or, hb x hx, tb_shl1 (by omega) hx, e x]
theorem sv_row {w : Nat → Int} (hf : WF w) {t : Int} {a0 : Nat} (h : SvAt w t 0 a0) : ∀ c : Nat, (c : Int) ≤ w 1 → SvAt w t c (smC w t a0 c)
  | 0, _ => h
  | c + 1, hc => by
    have ih := sv_row hf h c (by omega)
    rw [smC_s]
    by_cases q : w (104 + 7 * c) = 0 ∧ w (102 + 7 * c) = t
    · exact sv_yes hf ih q.1 q.2 (by omega)
    · have : smS w t c (smC w t a0 c) = smC w t a0 c := by unfold smS; rw [if_neg (fun z => q ⟨z.1, z.2.1⟩)]
      rw [this]
      exact sv_no ih (fun z => q ⟨z.1, z.2.1⟩)
theorem sv_next {w : Nat → Int} (hf : WF w) {t : Int} {a : Nat} (h : SvAt w t (w 1).toNat a) : SvAt w (t - 1) 0 a := by
  have hc := hf.cas
  have e : ∀ x, asd w (t - 1) 0 x = asd w t (w 1).toNat x := fun x => by
    unfold asd
    by_cases a1 : (x : Int) < w 1
    · congr 2
      rw [Bool.eq_iff_iff]
      simp only [Bool.or_eq_true, Bool.and_eq_true, decide_eq_true_eq]
      omega
    · simp [a1]
  unfold SvAt
  rw [cntB_cong (fun x _ => e x)]
  exact ⟨h.1, fun x hx => by rw [h.2 x hx, e x]⟩
theorem sv_all {w : Nat → Int} (hf : WF w) : ∀ q : Nat, SvAt w (99 - (q : Int)) 0 (smT w q)
  | 0 => by
    have e : ∀ x, x < 8 → asd w (99 - ((0 : Nat) : Int)) 0 x = false := fun x hx => by
      have := hf.wo (c := x) hx
      unfold asd
      rw [decide_eq_false (p := (99 - ((0 : Nat) : Int) < w (102 + 7 * x))) (by omega)]
      simp
    have e2 : ∀ x, asd w (99 - ((0 : Nat) : Int)) 0 x = false := fun x => by
      cases q : asd w (99 - ((0 : Nat) : Int)) 0 x
      · rfl
      · have := e x (asd_lt hf q); rw [q] at this; exact this
    unfold SvAt
    rw [cntB_cong (q := fun _ => false) (fun x hx => e x hx)]
    exact ⟨rfl, fun x hx => by rw [e2 x]; exact tb_0 x⟩
  | q + 1 => by
    have hc := hf.cas
    have ih := sv_row hf (sv_all hf q) (w 1).toNat (by omega)
    have := sv_next hf ih
    rw [smT_s]
    rw [show (99 : Int) - ((q + 1 : Nat) : Int) = 99 - (q : Int) - 1 by omega]
    exact this
theorem savF_stop {w : Nat → Int} (hf : WF w) {n : Nat} (h : ∀ x : Nat, (x : Int) < w 1 → w (104 + 7 * x) = 0 → tb (savF w n).1 x = true) : ∀ m, savF w (n + m) = savF w n
  | 0 => rfl
  | m + 1 => by
    have hc := hf.cas
    have ih := savF_stop hf h m
    rw [show n + (m + 1) = (n + m) + 1 by omega, savF_s, ih]
    unfold savS
    rw [if_neg]
    intro hw
    have b1 := amx_p (p := fun x => tb (andI (inSt w 0) (xorI (savF w n).1 (-1))) x) (v := fun x => w (102 + 7 * x)) (n := (w 1).toNat) hw
    change (wrtA w (andI (inSt w 0) (xorI (savF w n).1 (-1)))).toNat < (w 1).toNat ∧ tb (andI (inSt w 0) (xorI (savF w n).1 (-1))) (wrtA w (andI (inSt w 0) (xorI (savF w n).1 (-1)))).toNat = true at b1
    generalize (wrtA w (andI (inSt w 0) (xorI (savF w n).1 (-1)))).toNat = y at b1
    obtain ⟨b2, b3⟩ := b1
    rw [tb_and, tb_xor, inSt_bit hf (by omega), tb_m1 y (by omega)] at b3
    simp only [Bool.and_eq_true, decide_eq_true_eq] at b3
    rw [h y b3.1.1 b3.1.2] at b3
    exact absurd b3.2 (by decide)
theorem sm_sav {w : Nat → Int} (hf : WF w) : smT w 100 = savW w := by
  have hc := hf.cas
  obtain ⟨h1, h2⟩ := sv_all hf 100
  have hle : cntB (asd w (99 - ((100 : Nat) : Int)) 0) 8 ≤ (w 1).toNat := by
    have := cnt_inj (P := asd w (99 - ((100 : Nat) : Int)) 0) (fun x => x) (N := (w 1).toNat) 8 (fun _ => true) (fun x _ hx => by
      unfold asd at hx
      simp only [Bool.and_eq_true, decide_eq_true_eq] at hx
      exact ⟨by omega, rfl⟩) (fun _ _ _ _ _ _ e => e)
    rw [cntB_true] at this
    exact this
  have hst := savF_stop hf (n := cntB (asd w (99 - ((100 : Nat) : Int)) 0) 8) (fun x hx hs => by
    rw [h2 x (by omega)]
    have := hf.wo (c := x) (by omega)
    unfold asd
    simp only [Bool.and_eq_true, Bool.or_eq_true, decide_eq_true_eq]
    exact ⟨hx, hs, Or.inl (by omega)⟩) ((w 1).toNat - cntB (asd w (99 - ((100 : Nat) : Int)) 0) 8)
  rw [h1]
  unfold savW
  rw [← hst, Nat.add_sub_cancel' hle]
