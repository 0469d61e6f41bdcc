/-! TAPE, IMAGE, PAST, TEXTS -/
section
variable {h h' : Hc} {w w2 : Nat → Int} {A A2 : Nat → Nat → Int} {n n2 L L2 : Nat} {b b2 : Nat → Int} {im : Int} {wi : Nat → Int} {f f2 : Int} {S : Nat → Prop}
theorem CLi.nw (I : CLi h w A n L b im wi f) (o : Off S h h') (hs : ∀ q, S q → ¬ ((37 ≤ q ∧ q < 58) ∨ (65 ≤ q ∧ q < 70) ∨ q = 71 ∨ q = 72)) (hS : SameL w w2) (tw : Tw h' 5 w2) (pa : Pa h' 87 A2 n2) (e1 : h' 1 3 = (L2 : Int)) (e2 : ∀ k, k < L2 → h' 2 k = b2 k) (e14 : h' 0 14 = h 0 14) (e15 : h' 0 15 = f2) : CLi h' w2 A2 n2 L2 b2 im wi f2 := by
  obtain ⟨a1, a2, a3, a4, a5, a6, a7, a8⟩ := I
  refine ⟨tw, (a2.off o (fun i hi hq => hs _ hq (by omega))).same hS, pa, ⟨e1, e2⟩, ⟨e14.trans a5.1, fun hi => ⟨(a5.2 hi).1.off o (fun i hi hq => hs _ hq (by omega)), (a5.2 hi).2.off o (fun i hi hq => hs _ hq (by omega))⟩⟩, e15, ?_, ?_⟩
  · rw [o 71 (fun hq => hs _ hq (by omega))]; exact a7
  · rw [o 72 (fun hq => hs _ hq (by omega))]; exact a8
theorem CLi.tp (I : CLi h w A n L b im wi f) (o : Off S h h') (hs : ∀ q, S q → q = 0 ∨ q = 1 ∨ q = 2 ∨ ¬ cis q) (ob : ∀ i, i ≠ 15 → h' 0 i = h 0 i) (e1 : h' 1 3 = (L2 : Int)) (e2 : ∀ k, k < L2 → h' 2 k = b2 k) (e15 : h' 0 15 = f2) : CLi h' w A n L2 b2 im wi f2 :=
  I.nw o (fun q hq hc => by have := hs q hq; unfold cis at this; omega) (SameL.rf w) (I.1.off o (fun i hi hq => by have := hs _ hq; unfold cis at this; omega)) (I.2.2.1.off o (fun q hq hp => by have := hs q hq; unfold pas at hp; unfold cis at this; omega)) e1 e2 (ob 14 (by omega)) e15
theorem MDi.nw (J : MDi h w A n L b im wi f) (hw : h' 282 = w2) (ac : Ac 281 h' A2 n2) (e9 : h' 281 9 = (L2 : Int)) (eb : ∀ k, k < L2 → h' 287 k = wrapB (b2 k)) (e6 : h' 281 6 = h 281 6) (e2 : h' 283 = h 283) (e14 : h' 281 14 = f2) : MDi h' w2 A2 n2 L2 b2 im wi f2 :=
  ⟨hw, ac, ⟨e9, eb⟩, ⟨e6.trans J.2.2.2.1.1, fun hi i hi2 => by rw [e2]; exact J.2.2.2.1.2 hi i hi2⟩, e14⟩
theorem Ac.eq (a : Ac 281 h A n) (e7 : h' 281 7 = h 281 7) (e5 : h' (281 + 5) = h (281 + 5)) : Ac 281 h' A n := by
  unfold Ac at a ⊢; rw [e7, e5]; exact a
theorem MDi.tp (J : MDi h w A n L b im wi f) (o : Off S h h') (hs : ∀ q, S q → mqs 281 q ∨ q = 287 ∨ q = 288 ∨ q < 281) (e : ∀ k, k = 6 ∨ k = 7 ∨ k = 14 → h' 281 k = h 281 k) (e9 : h' 281 9 = (L2 : Int)) (eb : ∀ k, k < L2 → h' 287 k = wrapB (b2 k)) : MDi h' w A n L2 b2 im wi f :=
  J.nw ((o 282 (fun hq => by have := hs _ hq; unfold mqs at this; omega)).trans J.1) (J.2.1.eq (e 7 (by omega)) (o _ (fun hq => by have := hs _ hq; unfold mqs at this; omega))) e9 eb (e 6 (by omega)) (o 283 (fun hq => by have := hs _ hq; unfold mqs at this; omega)) ((e 14 (by omega)).trans J.2.2.2.2)
theorem SameL.sy {w w2 : Nat → Int} (h1 : SameL w w2) : SameL w2 w := fun i hi => (h1 i hi).symm
end
theorem AG_seed {g : Gs} {h : Hc} {PX : Po} {w : Nat → Int} {A : Nat → Nat → Int} {n L : Nat} {b : Nat → Int} {im : Int} {wi : Nat → Int} {f : Int} (G : G9 g) (I : CLi h w A n L b im wi f) (J : MDi h w A n L b im wi f) (K : BTi w A n L b im wi) {x : Int} (hx : in32 x) (KK : ∀ h1 v, AgV g h1 mX12_seed [vR 281, vI x] v → PX (.inl (some (vI v))) g h1) : Call 44 0 0 mX11_seed [vR 0, vI x] g h PX := by
  refine C_X11_seed (d := 44) (X := 0) G.1 I.1 K.1 ?_
  refine KK _ _ (fun P2 K2 => ?_)
  have hs9 : SameL w (updW w 7 x) := (SameL.rf w).upd (by omega) (by omega)
  have o9 : Off (fun q => q = 5) h (updH h (0 + 5) 5 x) := (Off.rf _ _).upd rfl
  have I1 : CLi (updH h (0 + 5) 5 x) (updW w 7 x) A n L b im wi f := I.nw o9 (fun q hq => by omega) hs9 I.1.use (I.2.2.1.off o9 (fun q hq hp => by unfold pas at hp; omega)) (by rw [o9 1 (by omega)]; exact I.2.2.2.1.1) (by rw [o9 2 (by omega)]; exact I.2.2.2.1.2) (by rw [o9 0 (by omega)]) (by rw [o9 0 (by omega)]; exact I.2.2.2.2.2.1)
  have J1 : MDi (updH h (0 + 5) 5 x) w A n L b im wi f := J.fr (fun q h1 _ => updH_a (by omega))
  refine C_X12_seed (d := 44) (M := 281) G.2.1 J1.1 K.1 J1.2.1 ?_
  intro h2 pM b1 b2
  exact K2 h2 ⟨updW w 7 x, A, n, L, b, im, wi, f, I1.md pM.1 (fun q hq => by unfold mas mos mbs mqs at hq; omega), J1.ac pM b1 b2, K.1.use hx, K.2.1.same hs9, (fun k hk => hs9.sy.tr (K.2.2.1 k hk)), K.2.2.2⟩
theorem AG_fault {g : Gs} {h : Hc} {PX : Po} {w : Nat → Int} {A : Nat → Nat → Int} {n L : Nat} {b : Nat → Int} {im : Int} {wi : Nat → Int} {f : Int} (G : G9 g) (I : CLi h w A n L b im wi f) (J : MDi h w A n L b im wi f) (K : BTi w A n L b im wi) (KK : ∀ h1 v, AgV g h1 mX12_fault [vR 281] v → PX (.inl (some (vI v))) g h1) : Call 44 0 0 mX11_fault [vR 0] g h PX := by
  refine C_X11_fault (d := 44) (X := 0) G.1 ?_
  refine KK _ _ (fun P2 K2 => ?_)
  refine C_X12_fault (d := 44) (M := 281) G.2.1 J.1 ?_
  intro h2 pM
  rw [show h 281 14 = h 0 15 from J.2.2.2.2.trans I.2.2.2.2.2.1.symm]
  exact K2 h2 (qM I J K pM).1
theorem AG_count_10 {g : Gs} {h : Hc} {PX : Po} {w : Nat → Int} {A : Nat → Nat → Int} {n L : Nat} {b : Nat → Int} {im : Int} {wi : Nat → Int} {f : Int} (G : G9 g) (I : CLi h w A n L b im wi f) (J : MDi h w A n L b im wi f) (K : BTi w A n L b im wi) (KK : ∀ h1 v, AgV g h1 mX12_count [vR 281, vI 10] v → PX (.inl (some (vI v))) g h1) : Call 44 0 0 mX11_count [vR 0, vI 10] g h PX := by
  refine C_X11_count_10 (d := 43) (X := 0) G.1 I.1 K.1 I.2.1 K.2.1 I.2.2.1 ?_
  refine KK _ _ (fun P2 K2 => ?_)
  refine C_X12_count_10 (d := 40) (M := 281) G.2.1 J.1 K.1 K.2.1 ?_
  intro h2 pM
  rw [show h 281 7 = (n : Int) from J.2.1.1]
  exact K2 h2 (qM I J K pM).1
theorem AG_end {g : Gs} {h : Hc} {PX : Po} {w : Nat → Int} {A : Nat → Nat → Int} {n L : Nat} {b : Nat → Int} {im : Int} {wi : Nat → Int} {f : Int} (G : G9 g) (I : CLi h w A n L b im wi f) (J : MDi h w A n L b im wi f) (K : BTi w A n L b im wi) {x : Int} (KK : ∀ h1 v, AgV g h1 mX12_end [vR 281, vI x] v → PX (.inl (some (vI v))) g h1) : Call 44 0 0 mX11_end [vR 0, vI x] g h PX := by
  refine C_X11_end (d := 44) (X := 0) (L := L) G.1 I.2.2.2.1.1 ?_ ?_
  · intro a1
    refine KK _ _ (fun P2 K2 => ?_)
    refine C_X12_end (d := 44) (M := 281) (L := L) G.2.1 J.1 J.2.2.1.1 ?_ ?_
    · intro b1 h2 pM
      exact K2 h2 (qM I J K pM).1
    · intro b1
      exact absurd b1 a1
  · intro a1
    obtain ⟨x0, rfl⟩ : ∃ x0 : Nat, x = (x0 : Int) := ⟨x.toNat, by omega⟩
    refine KK _ _ (fun P2 K2 => ?_)
    have o9 : Off (fun q => q = 1) h (updH h (0 + 1) 3 (x0 : Int)) := (Off.rf _ _).upd rfl
    have I1 : CLi (updH h (0 + 1) 3 (x0 : Int)) w A n x0 b im wi f := I.tp o9 (fun q hq => by omega) (fun i _ => by rw [o9 0 (by omega)]) (updH_s _ _ _ _) (fun k hk => by rw [o9 2 (by omega)]; exact I.2.2.2.1.2 k (by omega)) (by rw [o9 0 (by omega)]; exact I.2.2.2.2.2.1)
    have J1 : MDi (updH h (0 + 1) 3 (x0 : Int)) w A n L b im wi f := J.fr (fun q h1 _ => updH_a (by omega))
    refine C_X12_end (d := 44) (M := 281) (L := L) G.2.1 J1.1 J1.2.2.1.1 ?_ ?_
    · intro b1
      exact absurd a1 b1
    · intro b1 h2 o2 e2 e0 e9
      have J2 : MDi h2 w A n x0 b im wi f := J1.tp o2 (fun q hq => Or.inl hq) (fun k hk => e2 k (by omega) (by omega) (by omega)) e9 (fun k hk => by rw [o2 287 (by unfold mqs; omega)]; exact J1.2.2.1.2 k (by omega))
      exact K2 h2 ⟨w, A, n, x0, b, im, wi, f, I1.md o2 (fun q hq => by unfold mqs at hq; omega), J2, K.1, K.2.1, K.2.2.1, by have := K.2.2.2.1; omega, fun k hk => K.2.2.2.2.1 k (by omega), K.2.2.2.2.2⟩
theorem AG_feed {g : Gs} {h : Hc} {PX : Po} {w : Nat → Int} {A : Nat → Nat → Int} {n L : Nat} {b : Nat → Int} {im : Int} {wi : Nat → Int} {f : Int} (G : G9 g) (I : CLi h w A n L b im wi f) (J : MDi h w A n L b im wi f) (K : BTi w A n L b im wi) {a c d x y : Int} (KK : ∀ h1 v, AgV g h1 mX12_feed [vR 281, vI a, vI c, vI d, vI x, vI y] v → PX (.inl (some (vI v))) g h1) : Call 44 0 0 mX11_feed [vR 0, vI a, vI c, vI d, vI x, vI y] g h PX := by
  refine C_X11_feed (d := 43) (X := 0) (L := L) G.1 I.2.2.2.1.1 K.2.2.2.1 ?_ ?_
  · intro a1
    refine KK _ _ (fun P2 K2 => ?_)
    refine C_X12_feed (d := 44) (M := 281) (L := L) G.2.1 J.1 J.2.2.1.1 K.2.2.2.1 ?_ ?_
    · intro b1 h2 pM
      exact K2 h2 (qM I J K pM).1
    · intro b1
      exact absurd a1 (by omega)
  · intro a1 h1 o1 _ e3 eL eN
    refine KK _ _ (fun P2 K2 => ?_)
    have I1 : CLi h1 w A n (L + 20) (fun k => if k < L then b k else byB (fdX a c d x y) (k - L)) im wi f := I.tp o1 (fun q hq => by omega) (fun i _ => by rw [o1 0 (by omega)]) e3 (fun k hk => by
      by_cases e : k < L
      · rw [show (2 : Nat) = 0 + 2 from rfl, eL k e]; rw [if_pos e]; exact I.2.2.2.1.2 k e
      · rw [if_neg e, ← eN (k - L) (by omega), show L + (k - L) = k by omega]) (by rw [o1 0 (by omega)]; exact I.2.2.2.2.2.1)
    have J1 : MDi h1 w A n L b im wi f := J.off o1 (fun q hq => by omega)
    refine C_X12_feed (d := 44) (M := 281) (L := L) G.2.1 J1.1 J1.2.2.1.1 K.2.2.2.1 ?_ ?_
    · intro b1
      exact absurd a1 (by omega)
    · intro b1 h2 o2 e2 e0 e9 fL fN
      have J2 : MDi h2 w A n (L + 20) (fun k => if k < L then b k else byB (fdX a c d x y) (k - L)) im wi f := J1.tp o2 (fun q hq => hq.elim Or.inl (fun h9 => Or.inr (by omega))) (fun k hk => e2 k (by omega) (by omega) (by omega)) e9 (fun k hk => by
        by_cases e : k < L
        · rw [show (287 : Nat) = 281 + 6 from rfl, fL k e]; rw [if_pos e]; exact J1.2.2.1.2 k e
        · rw [if_neg e, ← fN (k - L) (by omega), show L + (k - L) = k by omega])
      refine K2 h2 ⟨w, A, n, L + 20, (fun k => if k < L then b k else byB (fdX a c d x y) (k - L)), im, wi, f, I1.md o2 (fun q hq => by unfold mqs at hq; omega), J2, K.1, K.2.1, K.2.2.1, a1, fun k hk => ?_, K.2.2.2.2.2⟩
      dsimp only
      split
      · rename_i e; exact K.2.2.2.2.1 k e
      · exact byB_rng _ _
theorem AG_image {g : Gs} {h : Hc} {PX : Po} {w : Nat → Int} {A : Nat → Nat → Int} {n L : Nat} {b : Nat → Int} {im : Int} {wi : Nat → Int} {f : Int} (G : G9 g) (I : CLi h w A n L b im wi f) (J : MDi h w A n L b im wi f) (K : BTi w A n L b im wi) (KK : ∀ h1, (∀ P : Po, (∀ h2, IX h2 → P (.inl none) g h2) → Call 44 0 0 mX12_image [vR 281] g h1 P) → PX (.inl none) g h1) : Call 44 0 0 mX11_image [vR 0] g h PX := by
  refine C_X11_image (d := 41) (X := 0) G.1 I.1 K.1 I.2.1 K.2.1 ?_
  intro h1 o1 tw lw e14 e15
  refine KK _ (fun P2 K2 => ?_)
  have z : ∀ q, 0 < q → ¬ ((37 ≤ q ∧ q < 53) ∨ (65 ≤ q ∧ q < 70)) → h1 q = h q := fun q h0 hq => o1 q (by unfold imS; omega)
  have I1 : CLi h1 w A n L b 1 w f := ⟨I.1.off o1 (fun i hi hq => by unfold imS at hq; omega), I.2.1.off o1 (fun i hi hq => by unfold imS at hq; omega), I.2.2.1.off o1 (fun q hq hp => by unfold imS at hq; unfold pas at hp; omega), ⟨by rw [z 1 (by omega) (by omega)]; exact I.2.2.2.1.1, by rw [z 2 (by omega) (by omega)]; exact I.2.2.2.1.2⟩, ⟨e14, fun _ => ⟨tw, lw⟩⟩, e15.trans I.2.2.2.2.2.1, by rw [z 71 (by omega) (by omega)]; exact I.2.2.2.2.2.2.1, by rw [z 72 (by omega) (by omega)]; exact I.2.2.2.2.2.2.2⟩
  have J1 : MDi h1 w A n L b im wi f := J.off o1 (fun q hq => by unfold imS at hq; omega)
  refine C_X12_image (d := 44) (M := 281) G.2.1 J1.1 ?_
  intro h2 o2 e2 e0 e6 ei
  have J2 : MDi h2 w A n L b 1 w f := ⟨(o2 282 (by unfold mqs; omega)).trans J1.1, J1.2.1.eq (e2 7 (by omega) (by omega) (by omega)) (o2 _ (by unfold mqs; omega)), ⟨(e2 9 (by omega) (by omega) (by omega)).trans J1.2.2.1.1, by rw [o2 287 (by unfold mqs; omega)]; exact J1.2.2.1.2⟩, ⟨e6, fun _ => ei⟩, (e2 14 (by omega) (by omega) (by omega)).trans J1.2.2.2.2⟩
  exact K2 h2 ⟨w, A, n, L, b, 1, w, f, I1.md o2 (fun q hq => by unfold mqs at hq; omega), J2, K.1, K.2.1, K.2.2.1, K.2.2.2.1, K.2.2.2.2.1, fun _ => ⟨K.1, K.2.1⟩⟩
theorem AG_undo {g : Gs} {h : Hc} {PX : Po} {w : Nat → Int} {A : Nat → Nat → Int} {n L : Nat} {b : Nat → Int} {im : Int} {wi : Nat → Int} {f : Int} (G : G9 g) (I : CLi h w A n L b im wi f) (J : MDi h w A n L b im wi f) (K : BTi w A n L b im wi) (KK : ∀ h1 v, AgV g h1 mX12_undo [vR 281] v → PX (.inl (some (vI v))) g h1) : Call 44 0 0 mX11_undo [vR 0] g h PX := by
  refine C_X11_undo (d := 41) (X := 0) (n := n) (A := A) G.1 I.2.2.1 ?_ ?_
  · intro a1
    refine KK _ _ (fun P2 K2 => ?_)
    refine C_X12_undo (d := 44) (M := 281) G.2.1 J.1 J.2.1 ?_ ?_
    · intro b1 h2 pM
      exact K2 h2 (qM I J K pM).1
    · intro b1
      exact absurd a1 (by omega)
  · intro a1 h1 o1 pa tw hf
    refine KK _ _ (fun P2 K2 => ?_)
    have hs9 := K.2.2.1 (n - 1) (by omega)
    have I1 : CLi h1 (A (n - 1)) A (n - 1) L b im wi f := I.nw o1 (fun q hq => by omega) hs9 tw pa (by rw [o1 1 (by omega)]; exact I.2.2.2.1.1) (by rw [o1 2 (by omega)]; exact I.2.2.2.1.2) (by rw [o1 0 (by omega)]) (by rw [o1 0 (by omega)]; exact I.2.2.2.2.2.1)
    have J1 : MDi h1 w A n L b im wi f := J.off o1 (fun q hq => by omega)
    refine C_X12_undo (d := 44) (M := 281) G.2.1 J1.1 J1.2.1 ?_ ?_
    · intro b1
      exact absurd a1 (by omega)
    · intro b1 h2 o2 e2 e0 ew ac
      have ew2 : h2 (281 + 1) = A (n - 1) := by
        rw [ew]
        funext i
        split
        · rfl
        · exact (hs9 i (Or.inr (by omega))).symm
      have J2 : MDi h2 (A (n - 1)) A (n - 1) L b im wi f := J1.nw ew2 ac ((e2 9 (by omega) (by omega) (by omega)).trans J1.2.2.1.1) (by rw [o2 287 (by unfold mqs; omega)]; exact J1.2.2.1.2) (e2 6 (by omega) (by omega) (by omega)) (o2 283 (by unfold mqs; omega)) ((e2 14 (by omega) (by omega) (by omega)).trans J1.2.2.2.2)
      exact K2 h2 ⟨A (n - 1), A, n - 1, L, b, im, wi, f, I1.md o2 (fun q hq => by unfold mqs at hq; omega), J2, hf, K.2.1.same hs9, fun k hk => hs9.sy.tr (K.2.2.1 k (by omega)), K.2.2.2⟩
theorem AG_back {g : Gs} {h : Hc} {PX : Po} {w : Nat → Int} {A : Nat → Nat → Int} {n L : Nat} {b : Nat → Int} {im : Int} {wi : Nat → Int} {f : Int} (G : G9 g) (I : CLi h w A n L b im wi f) (J : MDi h w A n L b im wi f) (K : BTi w A n L b im wi) (KK : ∀ h1 v, AgV g h1 mX12_back [vR 281] v → PX (.inl (some (vI v))) g h1) : Call 44 0 0 mX11_back [vR 0] g h PX := by
  by_cases hi : im = 0
  · refine C_X11_back (d := 41) (X := 0) (v := w) G.1 (fun e => absurd (I.2.2.2.2.1.1.trans hi) e) K.1 (fun e => absurd (I.2.2.2.2.1.1.trans hi) e) K.2.1 I.2.2.1 ?_ (fun e => absurd (I.2.2.2.2.1.1.trans hi) e)
    intro _
    refine KK _ _ (fun P2 K2 => ?_)
    refine C_X12_back (d := 44) (M := 281) G.2.1 J.1 ?_ (fun e => absurd (J.2.2.2.1.1.trans hi) e)
    intro _ h2 pM
    exact K2 h2 (qM I J K pM).1
  · have ec : ∀ i, i < 1365 → (fun i => if i < 1365 then h 283 i else w i) i = wi i := fun i hi2 => (if_pos hi2).trans (J.2.2.2.1.2 hi i hi2)
    obtain ⟨fw, fl⟩ := K.2.2.2.2.2 hi
    have fw2 : WF (fun i => if i < 1365 then h 283 i else w i) := fw.cg (fun i hi2 _ => ec i (by omega)) (by have e3 := ec 3 (by omega); have := fw.law; rw [← e3] at this; exact this)
    refine C_X11_back (d := 41) (X := 0) (v := fun i => if i < 1365 then h 283 i else w i) G.1 (fun _ => (I.2.2.2.2.1.2 hi).1.cg fw (fun i hi2 _ => ec i (by omega))) fw2 (fun _ => (I.2.2.2.2.1.2 hi).2.cg fl ec) (fl.cg ec) I.2.2.1 (fun e => absurd (I.2.2.2.2.1.1.symm.trans e) hi) ?_
    intro _ h1 o1 tw lw pa
    refine KK _ _ (fun P2 K2 => ?_)
    have z : ∀ q, ¬ ((5 ≤ q ∧ q < 21) ∨ (53 ≤ q ∧ q < 58) ∨ q = 87) → h1 q = h q := fun q hq => o1 q (by omega)
    have I1 : CLi h1 (fun i => if i < 1365 then h 283 i else w i) A 0 L b im wi f := ⟨tw, lw, pa, ⟨by rw [z 1 (by omega)]; exact I.2.2.2.1.1, by rw [z 2 (by omega)]; exact I.2.2.2.1.2⟩, ⟨by rw [z 0 (by omega)]; exact I.2.2.2.2.1.1, fun hi => ⟨(I.2.2.2.2.1.2 hi).1.off o1 (fun i hi hq => by omega), (I.2.2.2.2.1.2 hi).2.off o1 (fun i hi hq => by omega)⟩⟩, by rw [z 0 (by omega)]; exact I.2.2.2.2.2.1, by rw [z 71 (by omega)]; exact I.2.2.2.2.2.2.1, by rw [z 72 (by omega)]; exact I.2.2.2.2.2.2.2⟩
    have J1 : MDi h1 w A n L b im wi f := J.off o1 (fun q hq => by omega)
    refine C_X12_back (d := 44) (M := 281) G.2.1 J1.1 (fun e => absurd (J1.2.2.2.1.1.symm.trans e) hi) ?_
    intro _ h2 o2 e2 e0 e7 ew
    have J2 : MDi h2 (fun i => if i < 1365 then h 283 i else w i) A 0 L b im wi f := J1.nw (by rw [show (282 : Nat) = 281 + 1 from rfl, ew, show h1 (281 + 2) = h 283 from z 283 (by omega)]) ⟨e7, by omega, fun k i hk => absurd hk (by omega)⟩ ((e2 9 (by omega) (by omega) (by omega)).trans J1.2.2.1.1) (by rw [o2 287 (by unfold mqs; omega)]; exact J1.2.2.1.2) (e2 6 (by omega) (by omega) (by omega)) (o2 283 (by unfold mqs; omega)) ((e2 14 (by omega) (by omega) (by omega)).trans J1.2.2.2.2)
    exact K2 h2 ⟨_, A, 0, L, b, im, wi, f, I1.md o2 (fun q hq => by unfold mqs at hq; omega), J2, fw2, fl.cg ec, (fun k hk => absurd hk (by omega)), K.2.2.2⟩
theorem AG_meals {g : Gs} {h : Hc} {PX : Po} {w : Nat → Int} {A : Nat → Nat → Int} {n L : Nat} {b : Nat → Int} {im : Int} {wi : Nat → Int} {f : Int} (G : G9 g) (I : CLi h w A n L b im wi f) (J : MDi h w A n L b im wi f) (K : BTi w A n L b im wi) {x : Int} {b9 : Bool} (KK : ∀ h1 c, AgJ g h1 mX12_meals [vR 281, vI x, vI (bI b9)] c → PX (.inl (some (vI c))) g h1) : Call 43 2 12 mX11_meals [vR 0, vI x, vI (bI b9)] g h (WrJ [(xIO, 1), (xIA, 2)] 300 g PX) := by
  refine C_X11_meals (d := 37) (X := 0) (E := L) (b := b) G.1 I.1 K.1 I.2.1 K.2.1 I.2.2.2.1.1 K.2.2.2.1 I.2.2.2.1.2 K.2.2.2.2.1 ?_ ?_ ?_
  · intro a1 h1 o1 _ e3
    have I0 : CLi h1 w A n 0 b im wi f := I.tp o1 (fun q hq => by omega) (fun i _ => by rw [o1 0 (by omega)]) e3 (fun k hk => absurd hk (by omega)) (by rw [o1 0 (by omega)]; exact I.2.2.2.2.2.1)
    have J0 : MDi h1 w A n L b im wi f := J.off o1 (fun q hq => by omega)
    refine WrJ.x (c := 1) List.mem_cons_self (KK _ _ (fun P2 K2 => ?_))
    have I1 := I0
    have J1 := J0
    refine C_X12_meals (d := 34) (M := 281) (E := L) (b := b) G.2.1 J1.1 K.1 K.2.1 J1.2.2.1.1 K.2.2.2.1 (fun k hk => ⟨J1.2.2.1.2 k hk, K.2.2.2.2.1 k hk⟩) ?_ ?_ ?_
    · intro b1 h2 pM
      have J2 : MDi h2 w A n 0 b im wi f := J1.tp pM.1 (fun q hq => Or.inl hq) (fun k hk => pM.2.1 k (by omega) (by omega) (by omega) (by omega) (by omega)) pM.2.2.2.1 (fun k hk => absurd hk (by omega))
      exact K2 h2 _ ⟨w, A, n, 0, b, im, wi, f, I1.md pM.1 (fun q hq => by unfold mqs at hq; omega), J2, K.1, K.2.1, K.2.2.1, by omega, (fun k hk => absurd hk (by omega)), K.2.2.2.2.2⟩ pM.2.2.1 (fun e => absurd e (by decide))
    · intro b1 b2 h2 pM
      exact absurd b1 a1
    · intro j2 b1 b2 b3 h2 pM
      exact absurd (by omega) a1
  · intro a1 a2 h1 o1 _ e3
    have I0 : CLi h1 w A n 0 b im wi f := I.tp o1 (fun q hq => by omega) (fun i _ => by rw [o1 0 (by omega)]) e3 (fun k hk => absurd hk (by omega)) (by rw [o1 0 (by omega)]; exact I.2.2.2.2.2.1)
    have J0 : MDi h1 w A n L b im wi f := J.off o1 (fun q hq => by omega)
    refine WrJ.x (c := 2) (List.mem_cons_of_mem _ List.mem_cons_self) (KK _ _ (fun P2 K2 => ?_))
    have I1 := I0
    have J1 := J0
    refine C_X12_meals (d := 34) (M := 281) (E := L) (b := b) G.2.1 J1.1 K.1 K.2.1 J1.2.2.1.1 K.2.2.2.1 (fun k hk => ⟨J1.2.2.1.2 k hk, K.2.2.2.2.1 k hk⟩) ?_ ?_ ?_
    · intro b1 h2 pM
      exact absurd a1 b1
    · intro b1 b2 h2 pM
      have J2 : MDi h2 w A n 0 b im wi f := J1.tp pM.1 (fun q hq => Or.inl hq) (fun k hk => pM.2.1 k (by omega) (by omega) (by omega) (by omega) (by omega)) pM.2.2.2.1 (fun k hk => absurd hk (by omega))
      exact K2 h2 _ ⟨w, A, n, 0, b, im, wi, f, I1.md pM.1 (fun q hq => by unfold mqs at hq; omega), J2, K.1, K.2.1, K.2.2.1, by omega, (fun k hk => absurd hk (by omega)), K.2.2.2.2.2⟩ pM.2.2.1 (fun e => absurd e (by decide))
    · intro j2 b1 b2 b3 h2 pM
      exact absurd (a2.symm.trans b3) (by decide)
  · intro j a1 a2 a3 h1 o1 _ e3
    have I0 : CLi h1 w A n 0 b im wi f := I.tp o1 (fun q hq => by unfold scr at hq; unfold cis; omega) (fun i _ => by rw [o1 0 (by unfold scr; omega)]) e3 (fun k hk => absurd hk (by omega)) (by rw [o1 0 (by unfold scr; omega)]; exact I.2.2.2.2.2.1)
    have J0 : MDi h1 w A n L b im wi f := J.off o1 (fun q hq => by unfold scr at hq; omega)
    refine WrJ.v (KK _ _ (fun P2 K2 => ?_))
    have I1 := I0.out (v := if b9 then ff (fitB w b j L) 0 61 else ((cntB (fitB w b j L) 61 : Nat) : Int))
    have J1 := J0.out (v := if b9 then ff (fitB w b j L) 0 61 else ((cntB (fitB w b j L) 61 : Nat) : Int))
    refine C_X12_meals (d := 34) (M := 281) (E := L) (b := b) G.2.1 J1.1 K.1 K.2.1 J1.2.2.1.1 K.2.2.2.1 (fun k hk => ⟨J1.2.2.1.2 k hk, K.2.2.2.2.1 k hk⟩) ?_ ?_ ?_
    · intro b1 h2 pM
      exact absurd (by omega) b1
    · intro b1 b2 h2 pM
      exact absurd (a3.symm.trans b2) (by decide)
    · intro j2 b1 b2 b3 h2 pM
      obtain rfl : j2 = j := by omega
      have J2 : MDi h2 w A n 0 b im wi f := J1.tp pM.1 (fun q hq => Or.inl hq) (fun k hk => pM.2.1 k (by omega) (by omega) (by omega) (by omega) (by omega)) pM.2.2.2.1 (fun k hk => absurd hk (by omega))
      exact K2 h2 _ ⟨w, A, n, 0, b, im, wi, f, I1.md pM.1 (fun q hq => by unfold mqs at hq; omega), J2, K.1, K.2.1, K.2.2.1, by omega, (fun k hk => absurd hk (by omega)), K.2.2.2.2.2⟩ pM.2.2.1 (fun _ => by rw [pM.1 300 (by unfold mqs; omega)]; exact updH_s _ _ _ _)
theorem AG_tries {g : Gs} {h : Hc} {PX : Po} {w : Nat → Int} {A : Nat → Nat → Int} {n L : Nat} {b : Nat → Int} {im : Int} {wi : Nat → Int} {f : Int} (G : G9 g) (I : CLi h w A n L b im wi f) (J : MDi h w A n L b im wi f) (K : BTi w A n L b im wi) {x : Int} (KK : ∀ h1 c, AgJ g h1 mX12_tries [vR 281, vI x] c → PX (.inl (some (vI c))) g h1) : Call 43 2 12 mX11_tries [vR 0, vI x] g h (WrJ [(xIO, 1), (xIA, 2)] 300 g PX) := by
  refine C_X11_tries (d := 37) (X := 0) (E := L) (b := b) G.1 I.1 K.1 I.2.1 K.2.1 I.2.2.2.1.1 K.2.2.2.1 I.2.2.2.1.2 K.2.2.2.2.1 ?_ ?_ ?_
  · intro a1 h1 o1 _ e3
    have I0 : CLi h1 w A n 0 b im wi f := I.tp o1 (fun q hq => by omega) (fun i _ => by rw [o1 0 (by omega)]) e3 (fun k hk => absurd hk (by omega)) (by rw [o1 0 (by omega)]; exact I.2.2.2.2.2.1)
    have J0 : MDi h1 w A n L b im wi f := J.off o1 (fun q hq => by omega)
    refine WrJ.x (c := 1) List.mem_cons_self (KK _ _ (fun P2 K2 => ?_))
    have I1 := I0
    have J1 := J0
    refine C_X12_tries (d := 34) (M := 281) (E := L) (b := b) G.2.1 J1.1 K.1 K.2.1 J1.2.2.1.1 K.2.2.2.1 (fun k hk => ⟨J1.2.2.1.2 k hk, K.2.2.2.2.1 k hk⟩) ?_ ?_ ?_
    · intro b1 h2 pM
      have J2 : MDi h2 w A n 0 b im wi f := J1.tp pM.1 (fun q hq => Or.inl hq) (fun k hk => pM.2.1 k (by omega) (by omega) (by omega) (by omega) (by omega)) pM.2.2.2.1 (fun k hk => absurd hk (by omega))
      exact K2 h2 _ ⟨w, A, n, 0, b, im, wi, f, I1.md pM.1 (fun q hq => by unfold mqs at hq; omega), J2, K.1, K.2.1, K.2.2.1, by omega, (fun k hk => absurd hk (by omega)), K.2.2.2.2.2⟩ pM.2.2.1 (fun e => absurd e (by decide))
    · intro b1 b2 h2 pM
      exact absurd b1 a1
    · intro j2 b1 b2 b3 h2 pM
      exact absurd (by omega) a1
  · intro a1 a2 h1 o1 _ e3
    have I0 : CLi h1 w A n 0 b im wi f := I.tp o1 (fun q hq => by omega) (fun i _ => by rw [o1 0 (by omega)]) e3 (fun k hk => absurd hk (by omega)) (by rw [o1 0 (by omega)]; exact I.2.2.2.2.2.1)
    have J0 : MDi h1 w A n L b im wi f := J.off o1 (fun q hq => by omega)
    refine WrJ.x (c := 2) (List.mem_cons_of_mem _ List.mem_cons_self) (KK _ _ (fun P2 K2 => ?_))
    have I1 := I0
    have J1 := J0
    refine C_X12_tries (d := 34) (M := 281) (E := L) (b := b) G.2.1 J1.1 K.1 K.2.1 J1.2.2.1.1 K.2.2.2.1 (fun k hk => ⟨J1.2.2.1.2 k hk, K.2.2.2.2.1 k hk⟩) ?_ ?_ ?_
    · intro b1 h2 pM
      exact absurd a1 b1
    · intro b1 b2 h2 pM
      have J2 : MDi h2 w A n 0 b im wi f := J1.tp pM.1 (fun q hq => Or.inl hq) (fun k hk => pM.2.1 k (by omega) (by omega) (by omega) (by omega) (by omega)) pM.2.2.2.1 (fun k hk => absurd hk (by omega))
      exact K2 h2 _ ⟨w, A, n, 0, b, im, wi, f, I1.md pM.1 (fun q hq => by unfold mqs at hq; omega), J2, K.1, K.2.1, K.2.2.1, by omega, (fun k hk => absurd hk (by omega)), K.2.2.2.2.2⟩ pM.2.2.1 (fun e => absurd e (by decide))
    · intro j2 b1 b2 b3 h2 pM
      exact absurd (a2.symm.trans b3) (by decide)
  · intro j a1 a2 a3 h1 o1 _ e3
    have I0 : CLi h1 w A n 0 b im wi f := I.tp o1 (fun q hq => by unfold scr at hq; unfold cis; omega) (fun i _ => by rw [o1 0 (by unfold scr; omega)]) e3 (fun k hk => absurd hk (by omega)) (by rw [o1 0 (by unfold scr; omega)]; exact I.2.2.2.2.2.1)
    have J0 : MDi h1 w A n L b im wi f := J.off o1 (fun q hq => by unfold scr at hq; omega)
    refine WrJ.v (KK _ _ (fun P2 K2 => ?_))
    have I1 := I0.out (v := tryW w j (nset (fitB w b j L) 61))
    have J1 := J0.out (v := tryW w j (nset (fitB w b j L) 61))
    refine C_X12_tries (d := 34) (M := 281) (E := L) (b := b) G.2.1 J1.1 K.1 K.2.1 J1.2.2.1.1 K.2.2.2.1 (fun k hk => ⟨J1.2.2.1.2 k hk, K.2.2.2.2.1 k hk⟩) ?_ ?_ ?_
    · intro b1 h2 pM
      exact absurd (by omega) b1
    · intro b1 b2 h2 pM
      exact absurd (a3.symm.trans b2) (by decide)
    · intro j2 b1 b2 b3 h2 pM
      obtain rfl : j2 = j := by omega
      have J2 : MDi h2 w A n 0 b im wi f := J1.tp pM.1 (fun q hq => Or.inl hq) (fun k hk => pM.2.1 k (by omega) (by omega) (by omega) (by omega) (by omega)) pM.2.2.2.1 (fun k hk => absurd hk (by omega))
      exact K2 h2 _ ⟨w, A, n, 0, b, im, wi, f, I1.md pM.1 (fun q hq => by unfold mqs at hq; omega), J2, K.1, K.2.1, K.2.2.1, by omega, (fun k hk => absurd hk (by omega)), K.2.2.2.2.2⟩ pM.2.2.1 (fun _ => by rw [pM.1 300 (by unfold mqs; omega)]; exact updH_s _ _ _ _)
