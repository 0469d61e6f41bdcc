/-! WHAT A TEXT OF THE LAW SAYS CAN BE WORKED OFF -/
def runU (F u : Nat → Int) : Nat → Nat → List Int → Option (List Int)
  | _, 0, s => some s
  | i, k + 1, s => match stepL F (mcd (u i)) (mnu (u i)) s with
    | some s2 => runU F u (i + 1) k s2
    | none => none
section
variable {F u u2 w : Nat → Int} {i k j : Nat} {s s2 s3 : List Int}
theorem runU_s (h : stepL F (mcd (u i)) (mnu (u i)) s = some s2) : runU F u i (k + 1) s = runU F u (i + 1) k s2 := by
  rw [show runU F u i (k + 1) s = (match stepL F (mcd (u i)) (mnu (u i)) s with | some s2 => runU F u (i + 1) k s2 | none => none) from rfl, h]
theorem runU_cong : ∀ (k i : Nat) (s : List Int), (∀ j, i ≤ j → j < i + k → u2 j = u j) → runU F u2 i k s = runU F u i k s := by
  intro k
  induction k with
  | zero => intro i s _; rfl
  | succ k ih =>
    intro i s h
    rw [show runU F u2 i (k + 1) s = (match stepL F (mcd (u2 i)) (mnu (u2 i)) s with | some s2 => runU F u2 (i + 1) k s2 | none => none) from rfl, show runU F u i (k + 1) s = (match stepL F (mcd (u i)) (mnu (u i)) s with | some s2 => runU F u (i + 1) k s2 | none => none) from rfl, h i (Nat.le_refl _) (by omega)]
    cases stepL F (mcd (u i)) (mnu (u i)) s with
    | none => rfl
    | some s2 => exact ih (i + 1) s2 (fun j h1 h2 => h j (by omega) (by omega))
theorem runU_app : ∀ (k i : Nat) (s : List Int), runU F u i k s = some s2 → runU F u i (k + j) s = runU F u (i + k) j s2 := by
  intro k
  induction k with
  | zero =>
    intro i s h
    cases h
    rw [Nat.zero_add]
    rfl
  | succ k ih =>
    intro i s h
    rw [show k + 1 + j = (k + j) + 1 by omega]
    rw [show runU F u i (k + 1) s = (match stepL F (mcd (u i)) (mnu (u i)) s with | some s2 => runU F u (i + 1) k s2 | none => none) from rfl] at h
    cases hq : stepL F (mcd (u i)) (mnu (u i)) s with
    | none => rw [hq] at h; exact nomatch h
    | some s3 =>
      rw [hq] at h
      rw [runU_s hq, ih (i + 1) s3 h, show i + 1 + k = i + (k + 1) by omega]
theorem runL_U : ∀ (k i : Nat) (s : List Int), (∀ j, i ≤ j → j < i + k → w (565 + 2 * j) = mcd (u j) ∧ w (566 + 2 * j) = mnu (u j)) → runL F w i k s = runU F u i k s := by
  intro k
  induction k with
  | zero => intro i s _; rfl
  | succ k ih =>
    intro i s h
    have h1 := h i (Nat.le_refl _) (by omega)
    rw [show runL F w i (k + 1) s = (match stepL F (w (565 + 2 * i)) (w (566 + 2 * i)) s with | some s2 => runL F w (i + 1) k s2 | none => none) from rfl, show runU F u i (k + 1) s = (match stepL F (mcd (u i)) (mnu (u i)) s with | some s2 => runU F u (i + 1) k s2 | none => none) from rfl, h1.1, h1.2]
    cases stepL F (mcd (u i)) (mnu (u i)) s with
    | none => rfl
    | some s2 => exact ih (i + 1) s2 (fun j h1 h2 => h j (by omega) (by omega))
end
/-- a step that may stand there -/
def vst (x : Int) : Prop := (0 ≤ x ∧ x ≤ 1009) ∨ x = 2043 ∨ x = 2060 ∨ x = 2062 ∨ x = 1023 ∨ x = 1022 ∨ x = 1021
theorem vst_c {x : Int} (h : vst x) : cmap (mcd x) (mnu x) = x ∧ (0 ≤ mcd x ∧ mcd x ≤ 16) ∧ (mcd x = 10 → 0 ≤ mnu x ∧ mnu x ≤ 999) := by
  rcases h with h | rfl | rfl | rfl | rfl | rfl | rfl
  · by_cases h1 : x < 1000
    · rw [mcd_n h1, mnu_n h1]
      exact ⟨if_pos rfl, by omega, fun _ => by omega⟩
    · rw [mcd_w (by omega), mnu_w (by omega)]
      refine ⟨?_, by omega, fun _ => by omega⟩
      unfold cmap
      rw [if_neg (by omega), if_pos (by omega)]
      omega
  all_goals decide
section
variable {F : Nat → Int} {s : List Int} {x p y : Int}
theorem st_part (hF : okF F) (h : 0 ≤ x ∧ x ≤ 1006) (hs : s.length < 32) : ∃ p, (0 ≤ p ∧ p ≤ 1000) ∧ stepL F (mcd x) (mnu x) s = some (p :: s) := by
  by_cases h1 : x < 1000
  · rw [mcd_n h1, mnu_n h1]
    exact ⟨x, by omega, (if_pos (by decide)).trans ((if_pos hs).trans (by rw [if_pos rfl]))⟩
  · rw [mcd_w (by omega), mnu_w (by omega)]
    exact ⟨F (x - 1000).toNat, hF.1 _, (if_pos (by omega)).trans ((if_pos hs).trans (by rw [if_neg (by omega)]))⟩
theorem st_tag (hF : okF F) (h : 1007 ≤ x ∧ x ≤ 1009) (hs : s.length < 32) : ∃ p, (p = 0 ∨ p = 1) ∧ stepL F (mcd x) (mnu x) s = some (p :: s) := by
  refine ⟨F (x - 1000).toNat, ?_, ?_⟩
  · have : x = 1007 ∨ x = 1008 ∨ x = 1009 := by omega
    rcases this with rfl | rfl | rfl
    · exact hF.2.1
    · exact hF.2.2.1
    · exact hF.2.2.2
  · rw [mcd_w (by omega), mnu_w (by omega)]
    exact (if_pos (by omega)).trans ((if_pos hs).trans (by rw [if_neg (by omega)]))
theorem st_add (h : (0 ≤ x ∧ 0 ≤ p) ∧ x + p ≤ 1000000) : stepL F (mcd 2043) (mnu 2043) (p :: x :: s) = some ((x + p) :: s) := by
  rw [show mcd 2043 = 11 by decide, show mnu 2043 = 0 by decide]
  unfold stepL
  rw [if_neg (by decide)]
  show (if (11 : Int) = 14 then _ else _) = _
  rw [if_neg (by decide)]
  show (if (11 : Int) = 11 then _ else _) = _
  rw [if_pos rfl, if_pos h]
theorem st_cmp (h : y = 2060 ∨ y = 2062) : ∃ b, (b = 0 ∨ b = 1) ∧ stepL F (mcd y) (mnu y) (p :: x :: s) = some (b :: s) := by
  rcases h with rfl | rfl
  · rw [show mcd 2060 = 12 by decide, show mnu 2060 = 0 by decide]
    refine ⟨if x < p then 1 else 0, ?_, ?_⟩
    · by_cases q : x < p
      · rw [if_pos q]; exact Or.inr rfl
      · rw [if_neg q]; exact Or.inl rfl
    · unfold stepL
      rw [if_neg (by decide)]
      show (if (12 : Int) = 14 then _ else _) = _
      rw [if_neg (by decide)]
      show (if (12 : Int) = 11 then _ else _) = _
      rw [if_neg (by decide), if_pos rfl]
  · rw [show mcd 2062 = 13 by decide, show mnu 2062 = 0 by decide]
    refine ⟨if p < x then 1 else 0, ?_, ?_⟩
    · by_cases q : p < x
      · rw [if_pos q]; exact Or.inr rfl
      · rw [if_neg q]; exact Or.inl rfl
    · unfold stepL
      rw [if_neg (by decide)]
      show (if (13 : Int) = 14 then _ else _) = _
      rw [if_neg (by decide)]
      show (if (13 : Int) = 11 then _ else _) = _
      rw [if_neg (by decide), if_neg (by decide), if_pos rfl]
theorem st_not (h : p = 0 ∨ p = 1) : stepL F (mcd 1023) (mnu 1023) (p :: s) = some ((1 - p) :: s) := by
  rw [show mcd 1023 = 14 by decide, show mnu 1023 = 0 by decide]
  unfold stepL
  rw [if_neg (by decide)]
  show (if (14 : Int) = 14 then _ else _) = _
  rw [if_pos rfl, if_pos h]
theorem st_and (hx : x = 0 ∨ x = 1) (hp : p = 0 ∨ p = 1) : ∃ b, (b = 0 ∨ b = 1) ∧ stepL F (mcd 1022) (mnu 1022) (p :: x :: s) = some (b :: s) := by
  rw [show mcd 1022 = 15 by decide, show mnu 1022 = 0 by decide]
  refine ⟨if x = 1 ∧ p = 1 then 1 else 0, ?_, ?_⟩
  · by_cases q : x = 1 ∧ p = 1
    · rw [if_pos q]; exact Or.inr rfl
    · rw [if_neg q]; exact Or.inl rfl
  · unfold stepL
    rw [if_neg (by decide)]
    show (if (15 : Int) = 14 then _ else _) = _
    rw [if_neg (by decide)]
    show (if (15 : Int) = 11 then _ else _) = _
    rw [if_neg (by decide), if_neg (by decide), if_neg (by decide), if_pos ⟨hx, hp⟩, if_pos rfl]
theorem st_or (hx : x = 0 ∨ x = 1) (hp : p = 0 ∨ p = 1) : ∃ b, (b = 0 ∨ b = 1) ∧ stepL F (mcd 1021) (mnu 1021) (p :: x :: s) = some (b :: s) := by
  rw [show mcd 1021 = 16 by decide, show mnu 1021 = 0 by decide]
  refine ⟨if x = 1 ∨ p = 1 then 1 else 0, ?_, ?_⟩
  · by_cases q : x = 1 ∨ p = 1
    · rw [if_pos q]; exact Or.inr rfl
    · rw [if_neg q]; exact Or.inl rfl
  · unfold stepL
    rw [if_neg (by decide)]
    show (if (16 : Int) = 14 then _ else _) = _
    rw [if_neg (by decide)]
    show (if (16 : Int) = 11 then _ else _) = _
    rw [if_neg (by decide), if_neg (by decide), if_neg (by decide), if_pos ⟨hx, hp⟩, if_neg (by decide), if_pos rfl]
end
/-- from c to c1 the steps of u1 may stand there and leave one truth more on the stack -/
def OkS (D : Nat) (u1 : Nat → Int) (c c1 : Nat) : Prop := (∀ i, c ≤ i → i < c1 → vst (u1 i)) ∧ ∀ F, okF F → ∀ s : List Int, s.length + D ≤ 32 → ∃ b, (b = 0 ∨ b = 1) ∧ runU F u1 c (c1 - c) s = some (b :: s)
theorem OkS.cong {D c c1 : Nat} {u1 u2 : Nat → Int} (q : OkS D u1 c c1) (e : ∀ i, c ≤ i → i < c1 → u2 i = u1 i) : OkS D u2 c c1 := ⟨fun i h1 h2 => by rw [e i h1 h2]; exact q.1 i h1 h2, fun F hF s hs => by
  obtain ⟨b, hb, hr⟩ := q.2 F hF s hs
  exact ⟨b, hb, by rw [runU_cong _ _ _ (fun j h1 h2 => e j h1 (by omega))]; exact hr⟩⟩
/-- SUMs and a sign -/
def OkQ (sg : Int) (pl : Bool) (u1 : Nat → Int) (c c1 : Nat) : Prop := (∀ i, c ≤ i → i < c1 → vst (u1 i)) ∧ ∀ F, okF F → ∀ (s : List Int) (a x : Int), s.length + 3 ≤ 32 → (0 ≤ x ∧ x ≤ 1000 * (c : Int)) → ∃ b, (b = 0 ∨ b = 1) ∧ runU F u1 c (c1 - c) (cond pl (x :: (if 0 ≤ sg then a :: s else s)) (if 0 ≤ sg then a :: s else s)) = some (b :: s)
theorem emU_lt {u : Nat → Int} {c i : Nat} {p : Bool} {a : Int} (h : i < c) : emU u c p a i = u i := emU_k (Or.inl h)
/-- a part, and a plus if one is open -/
theorem ok_part {t u1 : Nat → Int} {sg : Int} {pl : Bool} {c c1 k : Nat} (h0 : 0 ≤ t k ∧ t k ≤ 1006) (hc : emC (c + 1) pl ≤ c1) (h4 : c1 ≤ 400) (e0 : u1 c = t k) (e1 : pl = true → u1 (c + 1) = 2043)
    (hv : ∀ i, emC (c + 1) pl ≤ i → i < c1 → vst (u1 i))
    (H : ∀ F, okF F → ∀ (s : List Int) (a y : Int), s.length + 3 ≤ 32 → (0 ≤ y ∧ y ≤ 1000 * ((emC (c + 1) pl : Nat) : Int)) → ∃ b, (b = 0 ∨ b = 1) ∧ runU F u1 (emC (c + 1) pl) (c1 - emC (c + 1) pl) (y :: (if 0 ≤ sg then a :: s else s)) = some (b :: s)) : OkQ sg pl u1 c c1 := by
  refine ⟨fun i h1 h2 => ?_, fun F hF s a x hs hx => ?_⟩
  · by_cases e : i = c
    · rw [e, e0]; exact Or.inl (by omega)
    · cases pl with
      | false => exact hv i (by show c + 1 ≤ i; omega) h2
      | true =>
        by_cases e2 : i = c + 1
        · rw [e2, e1 rfl]; exact Or.inr (Or.inl rfl)
        · exact hv i (by show c + 1 + 1 ≤ i; omega) h2
  · have hB : (if 0 ≤ sg then a :: s else s).length ≤ s.length + 1 := by
      by_cases q : 0 ≤ sg
      · rw [if_pos q]; exact Nat.le_refl _
      · rw [if_neg q]; exact Nat.le_succ _
    cases pl with
    | false =>
      have hc' : c + 1 ≤ c1 := hc
      obtain ⟨p, hp, hst⟩ := st_part (s := (if 0 ≤ sg then a :: s else s)) hF h0 (by omega)
      obtain ⟨b, hb, hr⟩ := H F hF s a p hs (by show 0 ≤ p ∧ p ≤ 1000 * (((c + 1 : Nat)) : Int); omega)
      refine ⟨b, hb, ?_⟩
      rw [show c1 - c = (c1 - (c + 1)) + 1 by omega]
      exact (runU_s (by rw [e0]; exact hst)).trans hr
    | true =>
      have hc' : c + 1 + 1 ≤ c1 := hc
      obtain ⟨p, hp, hst⟩ := st_part (s := x :: (if 0 ≤ sg then a :: s else s)) hF h0 (by rw [List.length_cons]; omega)
      obtain ⟨b, hb, hr⟩ := H F hF s a (x + p) hs (by show 0 ≤ x + p ∧ x + p ≤ 1000 * (((c + 1 + 1 : Nat)) : Int); omega)
      refine ⟨b, hb, ?_⟩
      rw [show c1 - c = (c1 - (c + 1 + 1)) + 1 + 1 by omega]
      exact (runU_s (by rw [e0]; exact hst)).trans ((runU_s (by rw [e1 rfl]; exact st_add (by omega))).trans hr)
theorem cmq_ok {t u1 : Nat → Int} {c1 k1 : Nat} (h4 : c1 ≤ 400) : ∀ (m : Nat) (sg : Int) (pl : Bool) (u : Nat → Int) (c k : Nat), (sg < 0 ∨ sg = 2060 ∨ sg = 2062) → cmqL t m sg pl u c k = .inr (u1, c1, k1) → OkQ sg pl u1 c c1 := by
  intro m
  induction m with
  | zero => intro sg pl u c k _ h; exact nomatch h
  | succ m ih =>
    intro sg pl u c k hsg h
    have hle := emC_le (c + 1) pl
    by_cases h0 : 0 ≤ t k ∧ t k ≤ 1006
    · have a0 : emU (updW u c (t k)) (c + 1) pl 2043 c = t k := by rw [emU_lt (by omega), updW_s]
      have a1 : pl = true → emU (updW u c (t k)) (c + 1) pl 2043 (c + 1) = 2043 := fun e => by rw [e]; exact updW_s _ _ _
      by_cases h1 : t (k + 1) = 2043
      · rw [cmqL_p h0 h1] at h
        have hl := (cmqL_le _ _ _ _ _ _ h).2.1
        have hk := cmq_k _ _ _ _ _ _ h
        have hq := ih _ _ _ _ _ hsg h
        have e1 : pl = true → u1 (c + 1) = 2043 := fun e => by
          have hc2 : emC (c + 1) pl = c + 1 + 1 := by rw [e]; rfl
          rw [hk _ (Or.inl (by omega))]; exact a1 e
        exact ok_part h0 (by omega) h4 (by rw [hk _ (Or.inl (by omega)), a0]) e1 hq.1 (fun F hF s a y hs hy => hq.2 F hF s a y hs hy)
      · by_cases h2 : 0 ≤ sg
        · rw [cmqL_e h0 h1 h2] at h
          cases h
          have e1 : pl = true → updW (emU (updW u c (t k)) (c + 1) pl 2043) (emC (c + 1) pl) sg (c + 1) = 2043 := fun e => by
            have hc2 : emC (c + 1) pl = c + 1 + 1 := by rw [e]; rfl
            rw [updW_n (by omega)]; exact a1 e
          refine ok_part h0 (by omega) h4 (by rw [updW_n (by omega), a0]) e1 (fun i h3 h5 => ?_) (fun F hF s a y hs hy => ?_)
          · rw [show i = emC (c + 1) pl by omega, updW_s]
            rcases hsg with q | q | q
            · omega
            · exact Or.inr (Or.inr (Or.inl q))
            · exact Or.inr (Or.inr (Or.inr (Or.inl q)))
          · rw [if_pos h2]
            obtain ⟨b, hb, hst⟩ := st_cmp (F := F) (s := s) (x := a) (p := y) (y := sg) (by omega)
            refine ⟨b, hb, ?_⟩
            rw [show emC (c + 1) pl + 1 - emC (c + 1) pl = 0 + 1 by omega]
            exact runU_s (by rw [updW_s]; exact hst)
        · by_cases h3 : t (k + 1) = 2060 ∨ t (k + 1) = 2062
          · rw [cmqL_g h0 h1 h2 h3] at h
            have hl := (cmqL_le _ _ _ _ _ _ h).2.1
            have hk := cmq_k _ _ _ _ _ _ h
            have hq := ih _ _ _ _ _ (Or.inr h3) h
            have e1 : pl = true → u1 (c + 1) = 2043 := fun e => by
              have hc2 : emC (c + 1) pl = c + 1 + 1 := by rw [e]; rfl
              rw [hk _ (Or.inl (by omega))]; exact a1 e
            refine ok_part h0 (by omega) h4 (by rw [hk _ (Or.inl (by omega)), a0]) e1 hq.1 (fun F hF s a y hs hy => ?_)
            obtain ⟨b, hb, hr⟩ := hq.2 F hF s y 0 hs (by omega)
            rw [if_pos (by omega)] at hr
            rw [if_neg h2]
            exact ⟨b, hb, hr⟩
          · rw [cmqL_w h0 h1 h2 h3] at h
            exact nomatch h
    · rw [cmqL_n h0] at h
      exact nomatch h
theorem OkQ.s {u1 : Nat → Int} {c c1 : Nat} (q : OkQ (-1) false u1 c c1) : OkS 3 u1 c c1 := ⟨q.1, fun F hF s hs => by
  obtain ⟨b, hb, hr⟩ := q.2 F hF s 0 0 hs (by omega)
  exact ⟨b, hb, hr⟩⟩
abbrev okA' (D : Nat) (A : (Nat → Int) → Nat → Nat → Nat ⊕ LsT) : Prop := ∀ (u u1 : Nat → Int) (c k c1 k1 : Nat), c1 ≤ 400 → A u c k = .inr (u1, c1, k1) → OkS D u1 c c1
/-- ATOMS with and, or: what is open lies on the stack -/
def OkN (D : Nat) (o a : Bool) (u1 : Nat → Int) (c c1 : Nat) : Prop := (∀ i, c ≤ i → i < c1 → vst (u1 i)) ∧ ∀ F, okF F → ∀ (s : List Int) (x y : Int), s.length + (D + 2) ≤ 32 → (x = 0 ∨ x = 1) → (y = 0 ∨ y = 1) → ∃ b, (b = 0 ∨ b = 1) ∧ runU F u1 c (c1 - c) (cond a (x :: cond o (y :: s) s) (cond o (y :: s) s)) = some (b :: s)
/-- an atom, and an and if one is open -/
theorem ok_at {D : Nat} {o a : Bool} {u1 u2 : Nat → Int} {c c1 c2 : Nat} (hA : OkS D u2 c c2) (h12 : c < c2) (hc : emC c2 a ≤ c1) (e : ∀ i, c ≤ i → i < c2 → u1 i = u2 i) (e1 : a = true → u1 c2 = 1022) (hv : ∀ i, emC c2 a ≤ i → i < c1 → vst (u1 i))
    (H : ∀ F, okF F → ∀ (s : List Int) (z y : Int), s.length + (D + 2) ≤ 32 → (z = 0 ∨ z = 1) → (y = 0 ∨ y = 1) → ∃ b, (b = 0 ∨ b = 1) ∧ runU F u1 (emC c2 a) (c1 - emC c2 a) (z :: cond o (y :: s) s) = some (b :: s)) : OkN D o a u1 c c1 := by
  have hle := emC_le c2 a
  have hA2 := hA.cong e
  refine ⟨fun i h1 h2 => ?_, fun F hF s x y hs hx hy => ?_⟩
  · by_cases q : i < c2
    · exact hA2.1 i h1 q
    · cases a with
      | false => exact hv i (by show c2 ≤ i; omega) h2
      | true =>
        by_cases q2 : i = c2
        · rw [q2, e1 rfl]; exact Or.inr (Or.inr (Or.inr (Or.inr (Or.inr (Or.inl rfl)))))
        · exact hv i (by show c2 + 1 ≤ i; omega) h2
  · have hB : (cond o (y :: s) s).length ≤ s.length + 1 := by
      cases o with
      | true => exact Nat.le_refl _
      | false => exact Nat.le_succ _
    cases a with
    | false =>
      obtain ⟨z, hz, hr⟩ := hA2.2 F hF (cond o (y :: s) s) (by omega)
      obtain ⟨b, hb, hr2⟩ := H F hF s z y hs hz hy
      refine ⟨b, hb, ?_⟩
      have hc' : c2 ≤ c1 := hc
      rw [show c1 - c = (c2 - c) + (c1 - c2) by omega]
      refine (runU_app _ _ _ hr).trans ?_
      rw [show c + (c2 - c) = c2 by omega]
      exact hr2
    | true =>
      obtain ⟨z, hz, hr⟩ := hA2.2 F hF (x :: cond o (y :: s) s) (by rw [List.length_cons]; omega)
      obtain ⟨w, hw, hst⟩ := st_and (F := F) (s := cond o (y :: s) s) hx hz
      obtain ⟨b, hb, hr2⟩ := H F hF s w y hs hw hy
      refine ⟨b, hb, ?_⟩
      have hc' : c2 + 1 ≤ c1 := hc
      rw [show c1 - c = (c2 - c) + ((c1 - (c2 + 1)) + 1) by omega]
      refine (runU_app _ _ _ hr).trans ?_
      rw [show c + (c2 - c) = c2 by omega]
      exact (runU_s (by rw [e1 rfl]; exact hst)).trans hr2
theorem cnd_ok {t : Nat → Int} {A : (Nat → Int) → Nat → Nat → Nat ⊕ LsT} {D : Nat} (hA : leA A) (hK : kpA A) (hO : okA' D A) {u1 : Nat → Int} {c1 k1 : Nat} (h4 : c1 ≤ 400) : ∀ (m : Nat) (o a : Bool) (u : Nat → Int) (c k : Nat), cndL t A m o a u c k = .inr (u1, c1, k1) → OkN D o a u1 c c1 := by
  intro m
  induction m with
  | zero => intro o a u c k h; exact nomatch h
  | succ m ih =>
    intro o a u c k h
    cases hq : A u c k with
    | inl f => rw [cndL_f hq] at h; exact nomatch h
    | inr R =>
      obtain ⟨u2, c2, k2⟩ := R
      obtain ⟨b1, b2, b3⟩ := hA _ _ _ _ _ _ hq
      have l1 := emC_le c2 a
      have l2 := emC_le (emC c2 a) o
      have ea : ∀ i, i < c2 → emU u2 c2 a 1022 i = u2 i := fun i hi => emU_lt hi
      have ea1 : a = true → emU u2 c2 a 1022 c2 = 1022 := fun e => by rw [e]; exact updW_s _ _ _
      have ec : a = true → emC c2 a = c2 + 1 := fun e => by rw [e]; rfl
      have eo1 : o = true → emU (emU u2 c2 a 1022) (emC c2 a) o 1021 (emC c2 a) = 1021 := fun e => by rw [e]; exact updW_s _ _ _
      by_cases h1 : t k2 = 1022
      · rw [cndL_a hq h1] at h
        have hl := (cndL_le hA _ _ _ _ _ _ h).2.1
        have hk := cnd_k hA hK _ _ _ _ _ _ h
        have hi := ih _ _ _ _ _ h
        refine ok_at (hO _ _ _ _ _ _ (by omega) hq) b2 (by omega) (fun i _ h3 => by rw [hk i (Or.inl (by omega)), ea i h3]) (fun e => by have := ec e; rw [hk c2 (Or.inl (by omega))]; exact ea1 e) hi.1 (fun F hF s z y hs hz hy => ?_)
        exact hi.2 F hF s z y hs hz hy
      · by_cases h2 : t k2 = 1021
        · rw [cndL_o hq h1 h2] at h
          have hl := (cndL_le hA _ _ _ _ _ _ h).2.1
          have hk := cnd_k hA hK _ _ _ _ _ _ h
          have hi := ih _ _ _ _ _ h
          refine ok_at (hO _ _ _ _ _ _ (by omega) hq) b2 (by omega) (fun i _ h3 => by rw [hk i (Or.inl (by omega)), emU_lt (by omega), ea i h3]) (fun e => by have := ec e; rw [hk c2 (Or.inl (by omega)), emU_lt (by omega)]; exact ea1 e) (fun i h3 h5 => ?_) (fun F hF s z y hs hz hy => ?_)
          · cases o with
            | false => exact hi.1 i h3 h5
            | true =>
              by_cases q : i = emC c2 a
              · rw [q, hk _ (Or.inl (by show emC c2 a < emC c2 a + 1; omega)), eo1 rfl]; exact Or.inr (Or.inr (Or.inr (Or.inr (Or.inr (Or.inr rfl)))))
              · exact hi.1 i (by show emC c2 a + 1 ≤ i; omega) h5
          · cases o with
            | false => exact hi.2 F hF s 0 z hs (Or.inl rfl) hz
            | true =>
              obtain ⟨w, hw, hst⟩ := st_or (F := F) (s := s) hy hz
              obtain ⟨b, hb, hr⟩ := hi.2 F hF s 0 w hs (Or.inl rfl) hw
              refine ⟨b, hb, ?_⟩
              have hl' : emC c2 a + 1 < c1 := hl
              rw [show c1 - emC c2 a = (c1 - (emC c2 a + 1)) + 1 by omega]
              exact (runU_s (by rw [hk _ (Or.inl (by show emC c2 a < emC c2 a + 1; omega)), eo1 rfl]; exact hst)).trans hr
        · rw [cndL_e hq h1 h2] at h
          cases h
          refine ok_at (hO _ _ _ _ _ _ (by omega) hq) b2 (by omega) (fun i _ h3 => by rw [emU_lt (by omega), ea i h3]) (fun e => by have := ec e; rw [emU_lt (by omega)]; exact ea1 e) (fun i h3 h5 => ?_) (fun F hF s z y hs hz hy => ?_)
          · cases o with
            | false => exfalso; have h5' : i < emC c2 a := h5; omega
            | true =>
              have h5' : i < emC c2 a + 1 := h5
              rw [show i = emC c2 a by omega, eo1 rfl]; exact Or.inr (Or.inr (Or.inr (Or.inr (Or.inr (Or.inr rfl)))))
          · cases o with
            | false =>
              refine ⟨z, hz, ?_⟩
              show runU F _ (emC c2 a) (emC c2 a - emC c2 a) (z :: s) = _
              rw [Nat.sub_self]
              rfl
            | true =>
              obtain ⟨w, hw, hst⟩ := st_or (F := F) (s := s) hy hz
              refine ⟨w, hw, ?_⟩
              rw [show emC (emC c2 a) true - emC c2 a = 0 + 1 from (by show emC c2 a + 1 - emC c2 a = 0 + 1; omega)]
              exact runU_s (by rw [eo1 rfl]; exact hst)
theorem OkN.s {D : Nat} {u1 : Nat → Int} {c c1 : Nat} (q : OkN D false false u1 c c1) : OkS (D + 2) u1 c c1 := ⟨q.1, fun F hF s hs => by
  obtain ⟨b, hb, hr⟩ := q.2 F hF s 0 0 hs (Or.inl rfl) (Or.inl rfl)
  exact ⟨b, hb, hr⟩⟩
theorem OkS.mono {D D' : Nat} {u1 : Nat → Int} {c c1 : Nat} (q : OkS D u1 c c1) (h : D ≤ D') : OkS D' u1 c c1 := ⟨q.1, fun F hF s hs => q.2 F hF s (by omega)⟩
theorem atm0_ok {t : Nat → Int} : okA' 3 (atm0 t) := by
  intro u u1 c k c1 k1 h4 h
  by_cases h1 : 1007 ≤ t k ∧ t k ≤ 1009
  · rw [atm0_t h1] at h
    cases h
    refine ⟨fun i h2 h3 => ?_, fun F hF s hs => ?_⟩
    · rw [show i = c by omega, updW_s]; exact Or.inl (by omega)
    · obtain ⟨p, hp, hst⟩ := st_tag (s := s) hF h1 (by omega)
      refine ⟨p, hp, ?_⟩
      rw [show c + 1 - c = 0 + 1 by omega]
      exact runU_s (by rw [updW_s]; exact hst)
  · rw [atm0_c h1] at h
    exact (cmq_ok h4 _ _ _ _ _ _ (Or.inl (by decide)) h).s
theorem atm_ok {t : Nat → Int} : ∀ r, okA' (3 + 2 * r) (atmL t r) := by
  intro r
  induction r with
  | zero =>
    intro u u1 c k c1 k1 h4 h
    by_cases h1 : t k = 1023 ∨ t k = 2040
    · rw [atmL_z h1] at h; exact nomatch h
    · rw [atmL_0 (by omega) (by omega)] at h
      exact atm0_ok _ _ _ _ _ _ h4 h
  | succ r ih =>
    intro u u1 c k c1 k1 h4 h
    by_cases h1 : t k = 2040
    · cases hq : cndL t (atmL t r) 400 false false u c (k + 1) with
      | inl f => rw [atmL_of h1 hq] at h; exact nomatch h
      | inr R =>
        obtain ⟨u2, c2, k2⟩ := R
        by_cases h2 : t k2 = 2041
        · rw [atmL_oy h1 hq h2] at h; cases h
          exact (cnd_ok (atmL_le r) (atm_k r) ih h4 _ _ _ _ _ _ hq).s.mono (by omega)
        · rw [atmL_on h1 hq h2] at h; exact nomatch h
    · by_cases h2 : t k = 1023
      · cases hq : atmL t r u c (k + 1) with
        | inl f => rw [atmL_nf h2 hq] at h; exact nomatch h
        | inr R =>
          obtain ⟨u2, c2, k2⟩ := R
          have hl := atmL_le r _ _ _ _ _ _ hq
          rw [atmL_ny h2 hq] at h
          cases h
          have hi := (ih _ _ _ _ _ _ (by omega) hq).cong (u2 := updW u2 c2 1023) (fun i _ h3 => updW_n (by omega))
          refine ⟨fun i h3 h5 => ?_, fun F hF s hs => ?_⟩
          · by_cases q : i = c2
            · rw [q, updW_s]; exact Or.inr (Or.inr (Or.inr (Or.inr (Or.inl rfl))))
            · exact hi.1 i h3 (by omega)
          · obtain ⟨b, hb, hr⟩ := hi.2 F hF s (by omega)
            refine ⟨1 - b, by omega, ?_⟩
            rw [show c2 + 1 - c = (c2 - c) + (0 + 1) by omega]
            refine (runU_app _ _ _ hr).trans ?_
            rw [show c + (c2 - c) = c2 by omega]
            exact runU_s (by rw [updW_s]; exact st_not hb)
      · rw [atmL_0 h2 h1] at h
        exact (atm0_ok _ _ _ _ _ _ h4 h).mono (by omega)
/-- lines and steps that a text of the law gives -/
def PkL (u : Nat → Int) (n c : Nat) : Prop := ((c : Int) = if n = 0 then 0 else u (402 + 3 * (n - 1))) ∧ (∀ i, i < c → vst (u i)) ∧ ∀ i, i < n → (1017 ≤ u (400 + 3 * i) ∧ u (400 + 3 * i) ≤ 1019) ∧ (0 ≤ u (401 + 3 * i) ∧ u (401 + 3 * i) ≤ 99) ∧ ∃ p e : Nat, p ≤ e ∧ e ≤ c ∧ u (402 + 3 * i) = (e : Int) ∧ (if i = 0 then 0 else u (402 + 3 * (i - 1))) = (p : Int) ∧ (p = e ∨ OkS 17 u p e)
theorem PkL.step {u u1 : Nat → Int} {n c c1 : Nat} {v a : Int} (q : PkL u n c) (hc : c ≤ c1) (h4 : c1 ≤ 400) (ek : ∀ i, (i < c ∨ c1 ≤ i) → u1 i = u i) (hs : c = c1 ∨ OkS 17 u1 c c1) (hv : 1017 ≤ v ∧ v ≤ 1019) (ha : 0 ≤ a ∧ a ≤ 99) : PkL (lnU u1 n v a c1) (n + 1) c1 := by
  obtain ⟨q0, q1, q2⟩ := q
  have e : ∀ i, i < 400 + 3 * n → lnU u1 n v a c1 i = u1 i := fun i hi => by unfold lnU; rw [updW_n (by omega), updW_n (by omega), updW_n (by omega)]
  refine ⟨by rw [if_neg (by omega), show n + 1 - 1 = n by omega]; unfold lnU; rw [updW_s], fun i hi => ?_, fun i hi => ?_⟩
  · rw [e i (by omega)]
    by_cases h1 : i < c
    · rw [ek i (Or.inl h1)]; exact q1 i h1
    · rcases hs with h2 | h2
      · omega
      · exact h2.1 i (by omega) hi
  · by_cases e8 : i = n
    · subst e8
      refine ⟨?_, ?_, c, c1, hc, Nat.le_refl _, ?_, ?_, hs.imp id (fun h2 => h2.cong (fun j _ h3 => e j (by omega)))⟩
      · unfold lnU; rw [updW_n (by omega), updW_n (by omega), updW_s]; exact hv
      · unfold lnU; rw [updW_n (by omega), updW_s]; exact ha
      · unfold lnU; rw [updW_s]
      · by_cases h0 : i = 0
        · rw [if_pos h0]; rw [if_pos h0] at q0; omega
        · rw [if_neg h0, e _ (by omega), ek _ (Or.inr (by omega))]; rw [if_neg h0] at q0; exact q0.symm
    · obtain ⟨x1, x2, p, e9, y1, y2, y3, y4, y5⟩ := q2 i (by omega)
      have ee : ∀ j, j < 400 + 3 * n → 400 ≤ j → lnU u1 n v a c1 j = u j := fun j h1 h2 => by rw [e j h1, ek j (Or.inr (by omega))]
      refine ⟨by rw [ee _ (by omega) (by omega)]; exact x1, by rw [ee _ (by omega) (by omega)]; exact x2, p, e9, y1, by omega, by rw [ee _ (by omega) (by omega)]; exact y3, ?_, y5.imp id (fun h2 => h2.cong (fun j h3 h5 => by rw [e j (by omega), ek j (Or.inl (by omega))]))⟩
      by_cases h0 : i = 0
      · rw [if_pos h0]; rw [if_pos h0] at y4; exact y4
      · rw [if_neg h0, ee _ (by omega) (by omega)]; rw [if_neg h0] at y4; exact y4
theorem ln_ok {t u u1 : Nat → Int} {n c k c1 k1 : Nat} (h4 : c1 ≤ 400) (q : PkL u n c) (h : lawLn t u n c k = .inr (u1, c1, k1)) : PkL u1 (n + 1) c1 := by
  by_cases h0 : 1017 ≤ t k ∧ t k ≤ 1019
  · by_cases h1 : 0 ≤ t (k + 1) ∧ t (k + 1) ≤ 99
    · by_cases h2 : t (k + 2) = 1020
      · cases hq : cndL t (atmL t 6) 400 false false u c (k + 3) with
        | inl f => rw [lawLn_if h0 h1 h2 hq] at h; exact nomatch h
        | inr R =>
          obtain ⟨u2, c2, k2⟩ := R
          rw [lawLn_iy h0 h1 h2 hq] at h
          cases h
          have hl := (cndL_le (atmL_le 6) _ _ _ _ _ _ hq).2.1
          exact q.step (by omega) h4 (cnd_k (atmL_le 6) (atm_k 6) _ _ _ _ _ _ hq) (Or.inr (cnd_ok (atmL_le 6) (atm_k 6) (atm_ok 6) h4 _ _ _ _ _ _ hq).s) h0 h1
      · rw [lawLn_y h0 h1 h2] at h
        cases h
        exact q.step (Nat.le_refl _) h4 (fun _ _ => rfl) (Or.inl rfl) h0 h1
    · rw [lawLn_a h0 h1] at h; exact nomatch h
  · rw [lawLn_n h0] at h; exact nomatch h
theorem lawAll_c {t u1 : Nat → Int} {n1 c1 : Nat} : ∀ (m : Nat) (u : Nat → Int) (n c k : Nat), lawAll t m u n c k = .inr (u1, n1, c1) → c ≤ c1 := by
  intro m
  induction m with
  | zero => intro u n c k h; exact nomatch h
  | succ m ih =>
    intro u n c k h
    cases hq : lawLn t u n c k with
    | inl f => rw [lawAll_f hq] at h; exact nomatch h
    | inr R =>
      obtain ⟨u2, c2, k2⟩ := R
      have hl := (lawLn_le hq).2.1
      by_cases h1 : t k2 = -1
      · rw [lawAll_e hq h1] at h; cases h; exact hl
      · by_cases h2 : t k2 = 2059
        · rw [lawAll_m hq h1 h2] at h
          have := ih _ _ _ _ h
          omega
        · rw [lawAll_n hq h1 h2] at h; exact nomatch h
theorem lawAll_ok {t u1 : Nat → Int} {n1 c1 : Nat} (h4 : c1 ≤ 400) : ∀ (m : Nat) (u : Nat → Int) (n c k : Nat), PkL u n c → lawAll t m u n c k = .inr (u1, n1, c1) → PkL u1 n1 c1 := by
  intro m
  induction m with
  | zero => intro u n c k _ h; exact nomatch h
  | succ m ih =>
    intro u n c k q h
    cases hq : lawLn t u n c k with
    | inl f => rw [lawAll_f hq] at h; exact nomatch h
    | inr R =>
      obtain ⟨u2, c2, k2⟩ := R
      by_cases h1 : t k2 = -1
      · rw [lawAll_e hq h1] at h; cases h; exact ln_ok h4 q hq
      · by_cases h2 : t k2 = 2059
        · rw [lawAll_m hq h1 h2] at h
          exact ih _ _ _ _ (ln_ok (by have := lawAll_c _ _ _ _ _ h; omega) q hq) h
        · rw [lawAll_n hq h1 h2] at h; exact nomatch h
theorem lawTx_ok {t u : Nat → Int} {n c : Nat} (h4 : c ≤ 400) (h : lawTx t = .inr (u, n, c)) : PkL u n c := by
  have q0 : PkL (fun _ => 0) 0 0 := ⟨rfl, fun i hi => absurd hi (Nat.not_lt_zero _), fun i hi => absurd hi (Nat.not_lt_zero _)⟩
  unfold lawTx at h
  by_cases h0 : t 0 = -1
  · rw [if_pos h0] at h; cases h; exact q0
  · rw [if_neg h0] at h; exact lawAll_ok h4 _ _ _ _ _ q0 h
theorem PkL.lok {u w : Nat → Int} {n c : Nat} (q : PkL u n c) (r : RwU w u n c) (hn : n ≤ 12) (hc : c ≤ 400) : LawOK w := by
  obtain ⟨r0, r1, r2, r3⟩ := r
  obtain ⟨q0, q1, q2⟩ := q
  intro _
  refine ⟨by omega, fun h0 => ?_, fun i hi => ?_, fun i hi => ?_⟩
  · have := (r3 0 (by omega)).2.2.1
    exact this.trans (if_pos rfl)
  · have h1 := (r3 (i + 1) (by omega)).2.2.1
    have h2 := (r3 i (by omega)).2.2.2
    rw [h2, h1, if_neg (by omega), show i + 1 - 1 = i by omega]
  · obtain ⟨x1, x2, p, e, y1, y2, y3, y4, y5⟩ := q2 i (by omega)
    obtain ⟨z1, z2, z3, z4⟩ := r3 i (by omega)
    have e1 : w (519 + 4 * i) = (p : Int) := z3.trans y4
    have e2 : w (520 + 4 * i) = (e : Int) := z4.trans y3
    refine ⟨by rw [z2]; exact x2, by rw [z1]; omega, by rw [e1, e2]; omega, fun F hF => ?_, fun j hj => ?_⟩
    · rw [e1, e2, show ((p : Nat) : Int).toNat = p from rfl, show ((e : Nat) : Int).toNat = e from rfl, runL_U _ _ _ (fun j h1 h2 => r2 j (by omega))]
      rcases y5 with h | h
      · rw [h, Nat.sub_self]; exact ⟨[], rfl, Or.inl rfl⟩
      · obtain ⟨b, hb, hr⟩ := h.2 F hF [] (by decide)
        refine ⟨[b], hr, ?_⟩
        rcases hb with hb | hb
        · exact Or.inr (Or.inl (by rw [hb]))
        · exact Or.inr (Or.inr (by rw [hb]))
    · rw [e2] at hj
      have := r2 j (by omega)
      rw [this.1, this.2]
      exact (vst_c (q1 j (by omega))).2
theorem PkL.lw {h : Hc} {r : Nat} {u w : Nat → Int} {n c : Nat} (q : PkL u n c) (hr : RwU w u n c) (hl : LwR h r u n c) : Lw h r w := by
  obtain ⟨r0, r1, r2, r3⟩ := hr
  obtain ⟨q0, q1, q2⟩ := q
  obtain ⟨l0, l1, l2⟩ := hl
  refine ⟨fun h3 => absurd r0 h3, fun _ => ⟨l0.trans r1.symm, fun i hi => ?_⟩⟩
  obtain ⟨x1, x2, p, e, y1, y2, y3, y4, y5⟩ := q2 i (by omega)
  obtain ⟨z1, z2, z3, z4⟩ := r3 i (by omega)
  obtain ⟨a1, a2, a3⟩ := l2 i (by omega)
  refine ⟨by rw [a1, z1]; omega, by rw [a2, z2], by rw [a3, z4], fun j hj => ?_⟩
  have hj2 : j < c := by rw [z4, y3] at hj; omega
  have := r2 j hj2
  rw [l1 j hj2, this.1, this.2, (vst_c (q1 j hj2)).1]
