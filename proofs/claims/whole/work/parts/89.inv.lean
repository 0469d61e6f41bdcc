/-! THE INVARIANT OF THE LAW'S LOOP -/
theorem WF.cg {w w' : Nat → Int} (f : WF w) (e : ∀ i, i < 516 → i ≠ 3 → w' i = w i) (h3 : w' 3 = 0 ∨ w' 3 = 1) : WF w' := by
  refine ⟨?_, ?_, ?_, ?_, ?_, ?_, ?_, ?_, ?_, ?_, ?_, ?_, ?_, ?_, ?_, ?_, ?_⟩
  · rw [e 0 (by omega) (by omega)]; exact f.jud
  · rw [e 1 (by omega) (by omega)]; exact f.cas
  · rw [e 2 (by omega) (by omega)]; exact f.tex
  · exact h3
  · rw [e 4 (by omega) (by omega)]; exact f.hou
  · rw [e 5 (by omega) (by omega)]; exact f.day
  · rw [e 6 (by omega) (by omega)]; exact f.log
  · rw [e 7 (by omega) (by omega)]; exact f.see
  · intro k hk; rw [e _ (by omega) (by omega)]; exact f.inn k hk
  · intro p hp; rw [e _ (by omega) (by omega), e 1 (by omega) (by omega)]; exact f.pla p hp
  · intro p q hp hq; rw [e _ (by omega) (by omega), e _ (by omega) (by omega)]; exact f.one p q hp hq
  · intro p hp; rw [e 0 (by omega) (by omega), e (20 + p) (by omega) (by omega)]; exact f.out p hp
  · intro j hj; rw [e _ (by omega) (by omega), e _ (by omega) (by omega), e _ (by omega) (by omega), e _ (by omega) (by omega)]; exact f.jof j hj
  · intro c hc; rw [e _ (by omega) (by omega), e _ (by omega) (by omega), e _ (by omega) (by omega), e _ (by omega) (by omega), e _ (by omega) (by omega), e _ (by omega) (by omega), e _ (by omega) (by omega)]; exact f.cof c hc
  · intro c h1; rw [e 1 (by omega) (by omega)] at h1; have := f.cas; rw [e _ (by omega) (by omega)]; exact f.lea c h1
  · intro c hc h1; rw [e 1 (by omega) (by omega)] at h1; rw [e _ (by omega) (by omega)]; exact f.wai c hc h1
  · intro r i hr hi; rw [e _ (by omega) (by omega)]; exact f.row r i hr hi
theorem Tw.cg {h : Hc} {t : Nat} {w w' : Nat → Int} (q : Tw h t w) (f : WF w) (e : ∀ i, i < 516 → i ≠ 3 → w' i = w i) : Tw h t w' := by
  have h1 := f.cas
  have h6 := f.log
  refine ⟨?_, ?_, ?_, ?_, ?_, ?_, ?_, ?_, ?_, ?_⟩
  · rw [e 0 (by omega) (by omega), e 1 (by omega) (by omega), e 2 (by omega) (by omega), e 4 (by omega) (by omega), e 5 (by omega) (by omega), e 7 (by omega) (by omega)]; exact q.1
  · intro j hj; rw [e _ (by omega) (by omega), e _ (by omega) (by omega), e _ (by omega) (by omega), e _ (by omega) (by omega)]; exact q.2.1 j hj
  · intro c hc; rw [e _ (by omega) (by omega), e _ (by omega) (by omega), e _ (by omega) (by omega), e _ (by omega) (by omega)]; exact q.2.2.1 c hc
  · intro c hc; rw [e 1 (by omega) (by omega)] at hc; rw [e _ (by omega) (by omega), e _ (by omega) (by omega), e _ (by omega) (by omega)]; exact q.2.2.2.1 c hc
  · intro c hc hc1; rw [e 1 (by omega) (by omega)] at hc1; exact q.2.2.2.2.1 c hc hc1
  · intro p hp; rw [e _ (by omega) (by omega)]; exact q.2.2.2.2.2.1 p hp
  · intro k hk; rw [e _ (by omega) (by omega)]; exact q.2.2.2.2.2.2.1 k hk
  · rw [e 6 (by omega) (by omega)]; exact q.size
  · exact q.first
  · intro ago i ha hi; rw [e 6 (by omega) (by omega)] at ha; rw [e 6 (by omega) (by omega), e _ (by omega) (by omega)]; exact q.rows ago i ha hi
theorem runL_cg {F w w' : Nat → Int} (e : ∀ i, i < 1365 → w' i = w i) : ∀ (k i : Nat) (s : List Int), i + k ≤ 400 → runL F w' i k s = runL F w i k s := by
  intro k
  induction k with
  | zero => intro i s _; rfl
  | succ k ih =>
    intro i s hk
    unfold runL
    rw [e (565 + 2 * i) (by omega), e (566 + 2 * i) (by omega)]
    cases stepL F (w (565 + 2 * i)) (w (566 + 2 * i)) s with
    | none => rfl
    | some s2 => exact ih (i + 1) s2 (by omega)
theorem LawOK.cg {w w' : Nat → Int} (h : LawOK w) (e : ∀ i, i < 1365 → w' i = w i) : LawOK w' := by
  intro h3
  rw [e 3 (by omega)] at h3
  obtain ⟨a, b, c, d⟩ := h h3
  refine ⟨by rw [e 516 (by omega)]; exact a, ?_, ?_, ?_⟩
  · rw [e 516 (by omega), e 519 (by omega)]; exact b
  · intro n hn
    rw [e 516 (by omega)] at hn
    rw [e _ (by omega), e _ (by omega)]; exact c n hn
  · intro n hn
    rw [e 516 (by omega)] at hn
    have := d n hn
    unfold LnOK at this ⊢
    rw [e (517 + 4 * n) (by omega), e (518 + 4 * n) (by omega), e (519 + 4 * n) (by omega), e (520 + 4 * n) (by omega)]
    obtain ⟨x1, x2, x3, x4, x5⟩ := this
    refine ⟨x1, x2, x3, fun F hF => ?_, fun i hi => ?_⟩
    · rw [runL_cg e _ _ _ (by omega)]; exact x4 F hF
    · rw [e _ (by omega), e _ (by omega)]; exact x5 i hi
theorem Lw.cg {h : Hc} {r : Nat} {w w' : Nat → Int} (q : Lw h r w) (ho : LawOK w) (e : ∀ i, i < 1365 → w' i = w i) : Lw h r w' := by
  unfold Lw
  rw [e 3 (by omega), e 516 (by omega)]
  refine ⟨q.1, fun h3 => ⟨(q.2 h3).1, fun n hn => ?_⟩⟩
  have hb := (ho h3).1
  have hc := ((ho h3).2.2.2 n hn).2.2.1
  rw [e _ (by omega), e _ (by omega), e _ (by omega)]
  obtain ⟨a, b, c, d⟩ := (q.2 h3).2 n hn
  exact ⟨a, b, c, fun i hi => by rw [e _ (by omega), e _ (by omega)]; exact d i hi⟩
/-- the class's part -/
def CLi (h : Hc) (w : Nat → Int) (A : Nat → Nat → Int) (n L : Nat) (b : Nat → Int) (im : Int) (wi : Nat → Int) (f : Int) : Prop := Tw h 5 w ∧ Lw h 53 w ∧ Pa h 87 A n ∧ (h 1 3 = (L : Int) ∧ ∀ k, k < L → h 2 k = b k) ∧ (h 0 14 = im ∧ (im ≠ 0 → Tw h 37 wi ∧ Lw h 65 wi)) ∧ h 0 15 = f ∧ h 71 1 = 14 ∧ h 72 1 = 12
/-- the model's part -/
def MDi (h : Hc) (w : Nat → Int) (A : Nat → Nat → Int) (n L : Nat) (b : Nat → Int) (im : Int) (wi : Nat → Int) (f : Int) : Prop := h 282 = w ∧ Ac 281 h A n ∧ (h 281 9 = (L : Int) ∧ ∀ k, k < L → h 287 k = wrapB (b k)) ∧ (h 281 6 = im ∧ (im ≠ 0 → ∀ i, i < 1365 → h 283 i = wi i)) ∧ h 281 14 = f
/-- what both speak of -/
def BTi (w : Nat → Int) (A : Nat → Nat → Int) (n L : Nat) (b : Nat → Int) (im : Int) (wi : Nat → Int) : Prop := WF w ∧ LawOK w ∧ (∀ k, k < n → SameL w (A k)) ∧ L ≤ 400 ∧ (∀ k, k < L → 0 ≤ b k ∧ b k ≤ 255) ∧ (im ≠ 0 → WF wi ∧ LawOK wi)
def IX (h : Hc) : Prop := ∃ w A n L b im wi f, CLi h w A n L b im wi f ∧ MDi h w A n L b im wi f ∧ BTi w A n L b im wi
def G9 (g : Gs) : Prop := ClG g 0 ∧ MdG g 281 ∧ g.1[300]? = some (14, 1, [])
/-- the class's cells that CLi speaks of -/
def cis (q : Nat) : Prop := q < 3 ∨ (5 ≤ q ∧ q < 21) ∨ (37 ≤ q ∧ q < 58) ∨ (65 ≤ q ∧ q < 70) ∨ (71 ≤ q ∧ q < 73) ∨ (87 ≤ q ∧ q < 281)
section
variable {h h' : Hc} {w : Nat → Int} {A : Nat → Nat → Int} {n L : Nat} {b : Nat → Int} {im : Int} {wi : Nat → Int} {f : Int}
theorem CLi.fr (I : CLi h w A n L b im wi f) (e : ∀ q, cis q → h' q = h q) : CLi h' w A n L b im wi f := by
  obtain ⟨a1, a2, a3, a4, a5, a6, a7, a8⟩ := I
  have o : Off (fun q => ¬ cis q) h h' := fun q hq => e q (Classical.not_not.mp hq)
  have z : ∀ q, cis q → ¬ ¬ cis q := fun q hq hn => hn hq
  refine ⟨a1.off o (fun i hi => z _ (by unfold cis; omega)), a2.off o (fun i hi => z _ (by unfold cis; omega)), a3.off o (fun q hq hp => hq (by unfold pas at hp; unfold cis; omega)), ⟨?_, ?_⟩, ⟨?_, fun hi => ⟨(a5.2 hi).1.off o (fun i hi => z _ (by unfold cis; omega)), (a5.2 hi).2.off o (fun i hi => z _ (by unfold cis; omega))⟩⟩, ?_, ?_, ?_⟩
  · rw [e 1 (by unfold cis; omega)]; exact a4.1
  · rw [e 2 (by unfold cis; omega)]; exact a4.2
  · rw [e 0 (by unfold cis; omega)]; exact a5.1
  · rw [e 0 (by unfold cis; omega)]; exact a6
  · rw [e 71 (by unfold cis; omega)]; exact a7
  · rw [e 72 (by unfold cis; omega)]; exact a8
theorem CLi.off {S : Nat → Prop} (I : CLi h w A n L b im wi f) (o : Off S h h') (hs : ∀ q, S q → ¬ cis q) : CLi h' w A n L b im wi f := I.fr (fun q hq => o q (fun hS => hs q hS hq))
theorem CLi.xs (I : CLi h w A n L b im wi f) (o : Off (xsc 0) h h') : CLi h' w A n L b im wi f := I.off o (fun q hq hc => by unfold xsc mts at hq; unfold cis at hc; omega)
theorem CLi.dr (I : CLi h w A n L b im wi f) (o : Off (drS 0) h h') : CLi h' w A n L b im wi f := I.off o (fun q hq hc => by unfold drS at hq; unfold cis at hc; omega)
theorem MDi.fr (I : MDi h w A n L b im wi f) (e : ∀ q, 281 ≤ q → q < 300 → h' q = h q) : MDi h' w A n L b im wi f := by
  obtain ⟨a1, a2, a3, a4, a5⟩ := I
  refine ⟨?_, ?_, ?_, ?_, ?_⟩
  · rw [e 282 (by omega) (by omega)]; exact a1
  · unfold Ac at a2 ⊢; rw [e 281 (by omega) (by omega), e (281 + 5) (by omega) (by omega)]; exact a2
  · rw [e 281 (by omega) (by omega), e 287 (by omega) (by omega)]; exact a3
  · rw [e 281 (by omega) (by omega), e 283 (by omega) (by omega)]; exact a4
  · rw [e 281 (by omega) (by omega)]; exact a5
theorem MDi.off {S : Nat → Prop} (I : MDi h w A n L b im wi f) (o : Off S h h') (hs : ∀ q, S q → q < 281 ∨ 300 ≤ q) : MDi h' w A n L b im wi f := I.fr (fun q h1 h2 => o q (fun hS => by have := hs q hS; omega))
theorem MDi.xs (I : MDi h w A n L b im wi f) (o : Off (xsc 0) h h') : MDi h' w A n L b im wi f := I.off o (fun q hq => by unfold xsc mts at hq; omega)
theorem MDi.dr (I : MDi h w A n L b im wi f) (o : Off (drS 0) h h') : MDi h' w A n L b im wi f := I.off o (fun q hq => by unfold drS at hq; omega)
theorem CLi.out {v : Int} (I : CLi h w A n L b im wi f) : CLi (updH h 300 0 v) w A n L b im wi f := I.fr (fun q hq => updH_a (by unfold cis at hq; omega))
theorem MDi.out {v : Int} (I : MDi h w A n L b im wi f) : MDi (updH h 300 0 v) w A n L b im wi f := I.fr (fun q _ _ => updH_a (by omega))
/-- the model changes no cell of the class -/
theorem CLi.md {S : Nat → Prop} (I : CLi h w A n L b im wi f) (o : Off S h h') (hs : ∀ q, S q → 281 ≤ q) : CLi h' w A n L b im wi f := I.off o (fun q hq hc => by have := hs q hq; unfold cis at hc; omega)
theorem MDi.mp {t : Int} (I : MDi h w A n L b im wi f) (p : Mp 281 h h' t) : MDi h' w A n L b im wi f := by
  obtain ⟨a1, a2, a3, a4, a5⟩ := I
  have o := p.1
  have e := p.2.1
  refine ⟨?_, a2.mp p, ?_, ?_, ?_⟩
  · rw [o 282 (by unfold mqs; omega)]; exact a1
  · rw [o 287 (by unfold mqs; omega), e 9 (by omega) (by omega)]; exact a3
  · rw [o 283 (by unfold mqs; omega), e 6 (by omega) (by omega)]; exact a4
  · rw [e 14 (by omega) (by omega)]; exact a5
theorem qM {t : Int} (I : CLi h w A n L b im wi f) (J : MDi h w A n L b im wi f) (K : BTi w A n L b im wi) (p : Mp 281 h h' t) : IX h' ∧ h' 281 0 = t ∧ h' 300 = h 300 :=
  ⟨⟨w, A, n, L, b, im, wi, f, I.md p.1 (fun q hq => by unfold mqs at hq; omega), J.mp p, K⟩, p.2.2, p.1 300 (by unfold mqs; omega)⟩
theorem MDi.mt {t : Int} (I : MDi h w A n L b im wi f) (p : Mt2 281 h h' t) (e1 : h' (281 + 1) = w) : MDi h' w A n L b im wi f := by
  obtain ⟨a1, a2, a3, a4, a5⟩ := I
  obtain ⟨o, e, -⟩ := p
  refine ⟨e1, ?_, ?_, ?_, ?_⟩
  · unfold Ac at a2 ⊢; rw [e 7 (by omega) (by omega), o (281 + 5) (by unfold mts2 mos mbs mqs; omega)]; exact a2
  · rw [o 287 (by unfold mts2 mos mbs mqs; omega), e 9 (by omega) (by omega)]; exact a3
  · rw [o 283 (by unfold mts2 mos mbs mqs; omega), e 6 (by omega) (by omega)]; exact a4
  · rw [e 14 (by omega) (by omega)]; exact a5
theorem qT {t : Int} (I : CLi h w A n L b im wi f) (J : MDi h w A n L b im wi f) (K : BTi w A n L b im wi) (p : Mt2 281 h h' t) (e1 : h' (281 + 1) = w) : IX h' ∧ h' 281 0 = t ∧ h' 300 = h 300 :=
  ⟨⟨w, A, n, L, b, im, wi, f, I.md p.1 (fun q hq => by unfold mts2 mos mbs mqs at hq; omega), J.mt p e1, K⟩, p.2.2, p.1 300 (by unfold mts2 mos mbs mqs; omega)⟩
theorem remA_S {w2 : Nat → Int} (hA : ∀ k, k < n → SameL w (A k)) (hs : SameL w w2) : ∀ k, k < rmbN n → SameL w2 (remA A n w k) := by
  have hb : SameL w2 w := fun i hi => (hs i hi).symm
  intro k hk
  by_cases h12 : n < 12
  · rw [remA_lo h12]
    by_cases e : k = n
    · rw [if_pos e]; exact hb
    · rw [if_neg e]; unfold rmbN at hk; rw [if_pos h12] at hk; exact hb.tr (hA k (by omega))
  · rw [remA_hi h12]
    by_cases e : k = 11
    · rw [if_pos e]; exact hb
    · rw [if_neg e]; unfold rmbN at hk; rw [if_neg h12] at hk; exact hb.tr (hA (k + 1) (by omega))
/-- behind an act of the class -/
theorem CLi.ac {w2 : Nat → Int} (I : CLi h w A n L b im wi f) (hs : SameL w w2) (o : Off (actS 0) h h') (ht : Tw h' (0 + 5) w2) (hp : Pa h' (0 + 87) (remA A n w) (rmbN n)) : CLi h' w2 (remA A n w) (rmbN n) L b im wi f := by
  obtain ⟨a1, a2, a3, a4, a5, a6, a7, a8⟩ := I
  have z : ∀ q, (q < 3 ∨ (37 ≤ q ∧ q < 58) ∨ (65 ≤ q ∧ q < 70) ∨ (71 ≤ q ∧ q < 73)) → ¬ actS 0 q := fun q hq hn => by unfold actS xsc mts at hn; omega
  refine ⟨ht, (a2.off o (fun i hi => z _ (by omega))).same hs, hp, ⟨?_, ?_⟩, ⟨?_, fun hi => ⟨(a5.2 hi).1.off o (fun i hi => z _ (by omega)), (a5.2 hi).2.off o (fun i hi => z _ (by omega))⟩⟩, ?_, ?_, ?_⟩
  · rw [o 1 (z _ (by omega))]; exact a4.1
  · rw [o 2 (z _ (by omega))]; exact a4.2
  · rw [o 0 (z _ (by omega))]; exact a5.1
  · rw [o 0 (z _ (by omega))]; exact a6
  · rw [o 71 (z _ (by omega))]; exact a7
  · rw [o 72 (z _ (by omega))]; exact a8
/-- behind an act of the model -/
theorem MDi.ac {w2 : Nat → Int} {t : Int} {A2 : Nat → Nat → Int} {n2 : Nat} (I : MDi h w A n L b im wi f) (p : Ma 281 h h' t) (hw : h' (281 + 1) = w2) (hq : Ac 281 h' A2 n2) : MDi h' w2 A2 n2 L b im wi f := by
  obtain ⟨a1, a2, a3, a4, a5⟩ := I
  obtain ⟨o, e, -⟩ := p
  refine ⟨hw, hq, ?_, ?_, ?_⟩
  · rw [o 287 (by unfold mas mos mbs mqs; omega), e 9 (by omega) (by omega) (by omega)]; exact a3
  · rw [o 283 (by unfold mas mos mbs mqs; omega), e 6 (by omega) (by omega) (by omega)]; exact a4
  · rw [e 14 (by omega) (by omega) (by omega)]; exact a5
/-- both behind an act: the class's at h1, the model's goes on from there -/
theorem qA {w2 : Nat → Int} {t : Int} {h1 : Hc} (I : CLi h1 w2 (remA A n w) (rmbN n) L b im wi f) (J : MDi h1 w A n L b im wi f) (K : BTi w A n L b im wi) (hs : SameL w w2) (hf : WF w2) (p : Ma 281 h1 h' t) (hw : h' (281 + 1) = w2) (hq : Ac 281 h' (remA A n w) (rmbN n)) : IX h' ∧ h' 281 0 = t ∧ h' 300 = h1 300 :=
  ⟨⟨w2, remA A n w, rmbN n, L, b, im, wi, f, I.md p.1 (fun q hq => by unfold mas mos mbs mqs at hq; omega), J.ac p hw hq, hf, K.2.1.same hs, remA_S K.2.2.1 hs, K.2.2.2⟩, p.2.2, p.1 300 (by unfold mas mos mbs mqs; omega)⟩
end
