/-- m lines at most are still allowed -/
def asAll (t : Nat → Int) : Nat → (Nat → Int) → Nat → Nat ⊕ (Nat → Int)
  | 0, _, k => .inl k
  | m + 1, w, k => match asLine t w k with
    | .inl f => .inl f
    | .inr (k1, w1) => if t k1 = -1 then .inr w1 else if t k1 = 2059 then asAll t m w1 (k1 + 1) else .inl k1
def asText (t w : Nat → Int) : Nat ⊕ (Nat → Int) := if t 0 = -1 then .inr w else asAll t 14 w 0
theorem asAll_f {t w : Nat → Int} {m k f : Nat} (h : asLine t w k = .inl f) : asAll t (m + 1) w k = .inl f := by unfold asAll; rw [h]
theorem asAll_e {t w w1 : Nat → Int} {m k k1 : Nat} (h : asLine t w k = .inr (k1, w1)) (h1 : t k1 = -1) : asAll t (m + 1) w k = .inr w1 := by unfold asAll; rw [h]; exact if_pos h1
theorem asAll_s {t w w1 : Nat → Int} {m k k1 : Nat} (h : asLine t w k = .inr (k1, w1)) (h1 : ¬ t k1 = -1) (h2 : t k1 = 2059) : asAll t (m + 1) w k = asAll t m w1 (k1 + 1) := by
  rw [show asAll t (m + 1) w k = (match asLine t w k with | .inl f => .inl f | .inr (k1, w1) => if t k1 = -1 then .inr w1 else if t k1 = 2059 then asAll t m w1 (k1 + 1) else .inl k1) from rfl, h]
  exact (if_neg h1).trans (if_pos h2)
theorem asAll_n {t w w1 : Nat → Int} {m k k1 : Nat} (h : asLine t w k = .inr (k1, w1)) (h1 : ¬ t k1 = -1) (h2 : ¬ t k1 = 2059) : asAll t (m + 1) w k = .inl k1 := by
  rw [show asAll t (m + 1) w k = (match asLine t w k with | .inl f => .inl f | .inr (k1, w1) => if t k1 = -1 then .inr w1 else if t k1 = 2059 then asAll t m w1 (k1 + 1) else .inl k1) from rfl, h]
  exact (if_neg h1).trans (if_neg h2)
abbrev FrA (X : Nat) (a : Nat) : Prop := a = X + 1 ∨ a = X + 3 ∨ a = X + 4 ∨ (X + 21 ≤ a ∧ a < X + 37)
def AlC (h : Hc) (X : Nat) (b : Nat → Int) (L : Nat) (v : Int) (R : Nat ⊕ (Nat → Int)) : Prop := (v = 1 ∧ h (X + 1) 5 = -1 ∧ ∃ w, R = .inr w ∧ Tw h (X + 21) w ∧ WF w) ∨ (v = 0 ∧ ∃ f, R = .inl f ∧ Wr h X b L f)
theorem TpC.w5 {h : Hc} {X : Nat} {b : Nat → Int} {L N k : Nat} (q : TpC h X b L N k) : h (X + 1) 5 = -1 := q.2.2.2.2.2.2.2
theorem MvD.fr {X : Nat} {h h' : Hc} (p : MvD X h h') : Off (FrA X) h h' := fun a ha => funext fun i => p a i (fun q => ha (Or.inl q.1)) (fun q => ha (Or.inr (Or.inr (Or.inr q))))
