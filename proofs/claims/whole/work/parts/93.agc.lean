/-! THE TEXTS: THE CLASS AND THE MODEL AGREE -/
theorem Pa.cg {h : Hc} {p n : Nat} {A A2 : Nat → Nat → Int} (q : Pa h p A n) (e : ∀ k, k < n → ∀ i, i < 516 → A2 k i = A k i) : Pa h p A2 n :=
  ⟨q.1, q.2.1, fun k hk => ⟨(q.2.2 k hk).1.cg (q.2.2 k hk).2 (fun i hi _ => e k hk i hi), (q.2.2 k hk).2.cg (fun i hi _ => e k hk i hi) (by rw [e k hk 3 (by omega)]; exact (q.2.2 k hk).2.law)⟩⟩
/-- the world's words behind its rows mean nothing -/
theorem IX.tail {h : Hc} {w w2 : Nat → Int} {A : Nat → Nat → Int} {n L : Nat} {b : Nat → Int} {im : Int} {wi : Nat → Int} {f : Int} (I : CLi h w A n L b im wi f) (J : MDi h w2 A n L b im wi f) (K : BTi w A n L b im wi) (e : ∀ i, i < 1365 → w2 i = w i) : IX h := by
  have eA : ∀ k, k < n → ∀ i, i < 516 → (fun i => if i < 1365 then A k i else w2 i) i = A k i := fun k _ i hi => if_pos (by omega)
  refine ⟨w2, (fun k i => if i < 1365 then A k i else w2 i), n, L, b, im, wi, f, ?_, ?_, ?_⟩
  · exact ⟨I.1.cg K.1 (fun i hi _ => e i (by omega)), I.2.1.cg K.2.1 e, I.2.2.1.cg eA, I.2.2.2⟩
  · exact ⟨J.1, ⟨J.2.1.1, J.2.1.2.1, fun k i hk hi => (J.2.1.2.2 k i hk hi).trans (eA k hk i hi).symm⟩, J.2.2⟩
  · refine ⟨K.1.cg (fun i hi _ => e i (by omega)) (by rw [e 3 (by omega)]; exact K.1.law), K.2.1.cg e, fun k hk i hi => ?_, K.2.2.2⟩
    by_cases h9 : i < 1365
    · exact (if_pos h9).trans ((K.2.2.1 k hk i hi).trans (e i h9).symm)
    · exact if_neg h9
theorem AG_assize {g : Gs} {h : Hc} {PX : Po} {w : Nat → Int} {A : Nat → Nat → Int} {n L : Nat} {b : Nat → Int} {im : Int} {wi : Nat → Int} {f : Int} (G : G9 g) (I : CLi h w A n L b im wi f) (J : MDi h w A n L b im wi f) (K : BTi w A n L b im wi) (KK : ∀ h1 c, AgJ g h1 mX12_assize [vR 281] c → PX (.inl (some (vI c))) g h1) : Call 43 1 6 mX11_assize [vR 0] g h (WrJ [(xIA, 1), (xUO, 2)] 300 g PX) := by
  have tb : ∀ h1, (∀ q, 281 ≤ q → q < 300 → h1 q = h q) → MDi h1 w A n L b im wi f ∧ ∀ i, i < L → h1 (281 + 6) i = wrapB (b i) ∧ (0 ≤ b i ∧ b i ≤ 255) := fun h1 e => ⟨J.fr e, fun i hi => ⟨(J.fr e).2.2.1.2 i hi, K.2.2.2.2.1 i hi⟩⟩
  refine C_X11_assize (d := 35) (X := 0) (b := b) (L := L) G.1 K.2.2.2.1 I.2.2.2.1.2 K.2.2.2.2.1 I.2.2.2.1.1 I.1 K.1 I.2.2.2.2.2.2.1 I.2.2.1 ?_ ?_ ?_
  · intro h1 f1 o1 ob e3 ea e15
    refine WrJ.x (c := 1) List.mem_cons_self (KK _ _ (fun P2 K2 => ?_))
    have I1 : CLi h1 w A n 0 b im wi ((stT b L f1 : Nat) : Int) := I.tp o1 (fun q hq => by unfold FrA at hq; unfold cis; omega) ob e3 (fun k hk => absurd hk (by omega)) e15
    obtain ⟨J1, hB⟩ := tb h1 (fun q q1 q2 => o1 q (by unfold FrA; omega))
    refine C_X12_assize (d := 33) (M := 281) (b := b) (L := L) G.2.1 J1.1 K.1 J1.2.2.1.1 K.2.2.2.1 hB ?_ ?_ ?_
    · intro h2 f2 p2 e7 eb ew e14 e0
      obtain rfl := Sum.inl.inj (ea.symm.trans eb)
      have J2 : MDi h2 w A n 0 b im wi ((stT b L f1 : Nat) : Int) := J1.nw ew (J1.2.1.eq e7 (p2.1 _ (by unfold mqs; omega))) p2.2.2 (fun k hk => absurd hk (by omega)) p2.2.1 (p2.1 283 (by unfold mqs; omega)) e14
      exact K2 h2 _ ⟨w, A, n, 0, b, im, wi, _, I1.md p2.1 (fun q hq => by unfold mqs at hq; omega), J2, K.1, K.2.1, K.2.2.1, by omega, (fun k hk => absurd hk (by omega)), K.2.2.2.2.2⟩ e0 (fun e => absurd e (by decide))
    · intro h2 w1 p2 e7 eb
      rw [ea] at eb; cases eb
    · intro h2 w1 p2 e7 eb
      rw [ea] at eb; cases eb
  · intro h1 w1 o1 ob e3 ea h12 e15
    refine WrJ.x (c := 2) (List.mem_cons_of_mem _ List.mem_cons_self) (KK _ _ (fun P2 K2 => ?_))
    have I1 : CLi h1 w A n 0 b im wi (-1) := I.tp o1 (fun q hq => by unfold FrA at hq; unfold cis; omega) ob e3 (fun k hk => absurd hk (by omega)) e15
    obtain ⟨J1, hB⟩ := tb h1 (fun q q1 q2 => o1 q (by unfold FrA; omega))
    refine C_X12_assize (d := 33) (M := 281) (b := b) (L := L) G.2.1 J1.1 K.1 J1.2.2.1.1 K.2.2.2.1 hB ?_ ?_ ?_
    · intro h2 f2 p2 e7 eb
      rw [ea] at eb; cases eb
    · intro h2 w2 p2 e7 eb h2t ew e14 e0
      have J2 : MDi h2 w A n 0 b im wi (-1) := J1.nw ew (J1.2.1.eq e7 (p2.1 _ (by unfold mqs; omega))) p2.2.2 (fun k hk => absurd hk (by omega)) p2.2.1 (p2.1 283 (by unfold mqs; omega)) e14
      exact K2 h2 _ ⟨w, A, n, 0, b, im, wi, _, I1.md p2.1 (fun q hq => by unfold mqs at hq; omega), J2, K.1, K.2.1, K.2.2.1, by omega, (fun k hk => absurd hk (by omega)), K.2.2.2.2.2⟩ e0 (fun e => absurd e (by decide))
    · intro h2 w2 p2 e7 eb hn hf2
      obtain rfl := Sum.inr.inj (ea.symm.trans eb)
      have := hf2.tex
      exact absurd (by omega) hn
  · intro h1 w1 o1 ob e3 ea h12 hf1 tw pa e15
    refine WrJ.v (KK _ _ (fun P2 K2 => ?_))
    have hs9 : SameL w (updW w1 2 (w1 2 + 1)) := (asText_B K.1 ea).same.upd (by omega) (by omega)
    have I1 : CLi (updH h1 300 0 (w1 2 + 1)) (updW w1 2 (w1 2 + 1)) A 0 0 b im wi (-1) := (I.nw (L2 := 0) (b2 := b) o1 (fun q hq => by unfold FrA at hq; omega) hs9 tw pa e3 (fun k hk => absurd hk (by omega)) (ob 14 (by omega)) e15).out
    obtain ⟨J1, hB⟩ := tb (updH h1 300 0 (w1 2 + 1)) (fun q q1 q2 => (updH_a (by omega)).trans (o1 q (by unfold FrA; omega)))
    refine C_X12_assize (d := 33) (M := 281) (b := b) (L := L) G.2.1 J1.1 K.1 J1.2.2.1.1 K.2.2.2.1 hB ?_ ?_ ?_
    · intro h2 f2 p2 e7 eb
      rw [ea] at eb; cases eb
    · intro h2 w2 p2 e7 eb h2t
      obtain rfl := Sum.inr.inj (ea.symm.trans eb)
      exact absurd (by omega) h12
    · intro h2 w2 p2 e7 eb hn hf2 ew e14 e0
      obtain rfl := Sum.inr.inj (ea.symm.trans eb)
      have J2 : MDi h2 (updW w1 2 (w1 2 + 1)) A 0 0 b im wi (-1) := J1.nw ew ⟨e7, by omega, fun k i hk => absurd hk (by omega)⟩ p2.2.2 (fun k hk => absurd hk (by omega)) p2.2.1 (p2.1 283 (by unfold mqs; omega)) e14
      exact K2 h2 _ ⟨_, A, 0, 0, b, im, wi, _, I1.md p2.1 (fun q hq => by unfold mqs at hq; omega), J2, hf1, K.2.1.same hs9, (fun k hk => absurd hk (by omega)), by omega, (fun k hk => absurd hk (by omega)), K.2.2.2.2.2⟩ e0 (fun _ => by rw [p2.1 300 (by unfold mqs; omega)]; exact updH_s _ _ _ _)
theorem AG_law {g : Gs} {h : Hc} {PX : Po} {w : Nat → Int} {A : Nat → Nat → Int} {n L : Nat} {b : Nat → Int} {im : Int} {wi : Nat → Int} {f : Int} (G : G9 g) (I : CLi h w A n L b im wi f) (J : MDi h w A n L b im wi f) (K : BTi w A n L b im wi) (KK : ∀ h1 c, AgJ g h1 mX12_law [vR 281] c → PX (.inl (some (vI c))) g h1) : Call 43 1 6 mX11_law [vR 0] g h (WrJ [(xIA, 1)] 300 g PX) := by
  have tb : ∀ h1, (∀ q, 281 ≤ q → q < 300 → h1 q = h q) → MDi h1 w A n L b im wi f ∧ ∀ i, i < L → h1 (281 + 6) i = wrapB (b i) ∧ (0 ≤ b i ∧ b i ≤ 255) := fun h1 e => ⟨J.fr e, fun i hi => ⟨(J.fr e).2.2.1.2 i hi, K.2.2.2.2.1 i hi⟩⟩
  refine C_X11_law (d := 23) (X := 0) (b := b) (L := L) G.1 K.2.2.2.1 I.2.2.2.1.2 K.2.2.2.2.1 I.2.2.2.1.1 I.2.2.2.2.2.2.2 I.2.2.1 ?_ ?_
  · intro h1 f1 o1 ob e3 ea e15
    refine WrJ.x (c := 1) List.mem_cons_self (KK _ _ (fun P2 K2 => ?_))
    have I1 : CLi h1 w A n 0 b im wi ((stT b L f1 : Nat) : Int) := I.tp o1 (fun q hq => by unfold FrLL at hq; unfold cis; omega) ob e3 (fun k hk => absurd hk (by omega)) e15
    obtain ⟨J1, hB⟩ := tb h1 (fun q q1 q2 => o1 q (by unfold FrLL; omega))
    refine C_X12_law (d := 12) (M := 281) (b := b) (L := L) G.2.1 J1.2.2.1.1 K.2.2.2.1 hB ?_ ?_
    · intro h2 f2 p2 e7 eb ew e14 e0
      obtain rfl := Sum.inl.inj (ea.symm.trans eb)
      have ew2 : ∀ i, i < 1365 → h2 282 i = w i := fun i hi => (ew i hi).trans (congrFun J1.1 i)
      have J2 : MDi h2 (h2 282) A n 0 b im wi ((stT b L f1 : Nat) : Int) := J1.nw rfl (J1.2.1.eq e7 (p2.1 _ (by unfold mqs; omega))) p2.2.2 (fun k hk => absurd hk (by omega)) p2.2.1 (p2.1 283 (by unfold mqs; omega)) e14
      have I2 := I1.md p2.1 (fun q hq => by unfold mqs at hq; omega)
      exact K2 h2 _ (IX.tail I2 J2 ⟨K.1, K.2.1, K.2.2.1, by omega, (fun k hk => absurd hk (by omega)), K.2.2.2.2.2⟩ ew2) e0 (fun e => absurd e (by decide))
    · intro h2 u m c p2 e7 eb
      rw [ea] at eb; cases eb
  · intro h1 u m c o1 ob e3 ea hm hc lr pa e15
    refine WrJ.v (KK _ _ (fun P2 K2 => ?_))
    obtain ⟨J1, hB⟩ := tb (updH h1 300 0 (m : Int)) (fun q q1 q2 => (updH_a (by omega)).trans (o1 q (by unfold FrLL; omega)))
    refine C_X12_law (d := 12) (M := 281) (b := b) (L := L) G.2.1 J1.2.2.1.1 K.2.2.2.1 hB ?_ ?_
    · intro h2 f2 p2 e7 eb
      rw [ea] at eb; cases eb
    · intro h2 u2 m2 c2 p2 e7 eb hm2 hc2 ew rw2 e14 e0
      have e9 := Sum.inr.inj (ea.symm.trans eb)
      cases e9
      have pk := lawTx_ok hc ea
      have z1 : ∀ q, q < 281 → h2 q = h1 q := fun q hq => (p2.1 q (by unfold mqs; omega)).trans (updH_a (by omega))
      have z0 : ∀ q, q < 281 → ¬ (q < 3) → q ≠ 3 → q ≠ 4 → ¬ (59 ≤ q ∧ q < 65) → ¬ (53 ≤ q ∧ q < 58) → q ≠ 87 → h2 q = h q := fun q h9 a1 a2 a3 a4 a5 a6 => (z1 q h9).trans (o1 q (by unfold FrLL; omega))
      have o9 : Off (fun q => 281 ≤ q ∨ q < 5 ∨ (59 ≤ q ∧ q < 65) ∨ (53 ≤ q ∧ q < 58) ∨ q = 87) h h2 := fun q hq => z0 q (by omega) (by omega) (by omega) (by omega) (by omega) (by omega) (by omega)
      have ew2 : ∀ i, i < 516 → i ≠ 3 → h2 282 i = w i := fun i hi h3 => (ew i hi h3).trans (congrFun J1.1 i)
      have lr2 : LwR h2 53 u m c := by
        unfold LwR at lr ⊢
        rw [z1 53 (by omega), z1 (53 + 4) (by omega), z1 (53 + 1) (by omega), z1 (53 + 2) (by omega), z1 (53 + 3) (by omega)]
        exact lr
      have pa2 : Pa h2 87 A 0 := pa.off (S := fun q => 281 ≤ q) (fun q hq => z1 q (by omega)) (fun q hq hp => by unfold pas at hp; omega)
      have I2 : CLi h2 (h2 282) A 0 0 b im wi (-1) := ⟨(I.1.off o9 (fun i hi hq => by omega)).cg K.1 ew2, pk.lw rw2 lr2, pa2, ⟨by rw [z1 1 (by omega)]; exact e3, fun k hk => absurd hk (by omega)⟩, ⟨by rw [z1 0 (by omega)]; exact (ob 14 (by omega)).trans I.2.2.2.2.1.1, fun hi => ⟨(I.2.2.2.2.1.2 hi).1.off o9 (fun i hi hq => by omega), (I.2.2.2.2.1.2 hi).2.off o9 (fun i hi hq => by omega)⟩⟩, by rw [z1 0 (by omega)]; exact e15, by rw [o9 71 (by omega)]; exact I.2.2.2.2.2.2.1, by rw [o9 72 (by omega)]; exact I.2.2.2.2.2.2.2⟩
      have J2 : MDi h2 (h2 282) A 0 0 b im wi (-1) := J1.nw rfl ⟨e7, by omega, fun k i hk => absurd hk (by omega)⟩ p2.2.2 (fun k hk => absurd hk (by omega)) p2.2.1 (p2.1 283 (by unfold mqs; omega)) e14
      exact K2 h2 _ ⟨_, A, 0, 0, b, im, wi, _, I2, J2, K.1.cg ew2 (Or.inr rw2.1), pk.lok rw2 hm hc, (fun k hk => absurd hk (by omega)), by omega, (fun k hk => absurd hk (by omega)), K.2.2.2.2.2⟩ e0 (fun _ => by rw [p2.1 300 (by unfold mqs; omega)]; exact updH_s _ _ _ _)
