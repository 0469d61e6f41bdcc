/-! THE ACTS: THE CLASS AND THE MODEL AGREE -/
theorem stW_no {w : Nat → Int} (f : WF w) {c : Nat} : ∀ q, q < 60 → stW w (c : Int) (20 + q) ≠ (c : Int) := by
  intro q hq
  unfold stW
  rcases placeOf_rng w (c : Int) with e | ⟨p, hp, e, hpp, _⟩
  · rw [if_neg (by omega)]
    intro h3
    have h4 := firstB_none (p := placeP w (c : Int)) e (k := q) hq
    unfold placeP at h4
    rw [h3] at h4
    simp at h4
  · rw [if_pos (by omega), e]
    unfold updW
    by_cases h6 : 20 + q = 20 + ((p : Nat) : Int).toNat
    · rw [if_pos h6]; omega
    · rw [if_neg h6]
      intro h7
      have := f.one q p hq hp (by rw [h7, hpp]) (by rw [h7]; omega)
      omega
theorem stW_n {w : Nat → Int} {x : Int} {i : Nat} (h : i < 20 ∨ 80 ≤ i) : stW w x i = w i := by
  unfold stW
  rcases placeOf_rng w x with e | ⟨p, hp, e, _⟩
  · rw [if_neg (by omega)]
  · rw [if_pos (by omega), e]; exact updW_n (by omega)
theorem AG_feeds {g : Gs} {h : Hc} {PX : Po} {w : Nat → Int} {A : Nat → Nat → Int} {n L : Nat} {b : Nat → Int} {im : Int} {wi : Nat → Int} {f : Int} (G : G9 g) (I : CLi h w A n L b im wi f) (J : MDi h w A n L b im wi f) (K : BTi w A n L b im wi) {x : Int} (KK : ∀ h1 c, AgJ g h1 mX12_feeds [vR 281, vI x] c → PX (.inl (some (vI c))) g h1) : Call 43 1 6 mX11_feeds [vR 0, vI x] g h (WrJ [(xIO, 1)] 300 g PX) := by
  refine C_X11_feeds (d := 40) (X := 0) G.1 I.1 K.1 I.2.1 K.2.1 I.2.2.1 ?_ ?_
  · intro a1
    refine WrJ.x (c := 1) List.mem_cons_self (KK _ _ (fun P2 K2 => ?_))
    have I1 := I
    have J1 := J
    refine C_X12_feeds (d := 41) (M := 281) G.2.1 J1.1 K.1 J1.2.1 ?_ ?_
    · intro b1 h2 pM
      exact endX (v0 := 0) (by decide) K2 (qM I1 J1 K pM)
    · intro j2 b1 b2 h2 pM b4 b5
      first | (exfalso; omega) | (exfalso; omega)
  · intro j a1 a2 h1 oX a4 a5
    have hs9 : SameL w (updW w (80 + 4 * j) 0) := (by have hj9 := K.1.jud; have hc9 := K.1.cas; exact (SameL.rf w).upd (by omega) (by omega))
    have hf9 : WF (updW w (80 + 4 * j) 0) := (by have hj9 := K.1.jud; have hc9 := K.1.cas; exact K.1.uhu (by omega) ⟨Int.le_refl _, by decide⟩)
    refine WrJ.v (KK _ _ (fun P2 K2 => ?_))
    have I1 := ((I.ac hs9 oX a4 a5)).out (v := (w (80 + 4 * j)))
    have J1 := ((J.off oX (fun q hq => by unfold actS xsc mts at hq; omega))).out (v := (w (80 + 4 * j)))
    refine C_X12_feeds (d := 41) (M := 281) G.2.1 J1.1 K.1 J1.2.1 ?_ ?_
    · intro b1 h2 pM
      first | (exfalso; omega) | (exfalso; omega)
    · intro j2 b1 b2 h2 pM b4 b5
      obtain rfl : j2 = j := by omega
      exact endV K2 (qA I1 J1 K hs9 hf9 pM b4 b5)
theorem AG_fast {g : Gs} {h : Hc} {PX : Po} {w : Nat → Int} {A : Nat → Nat → Int} {n L : Nat} {b : Nat → Int} {im : Int} {wi : Nat → Int} {f : Int} (G : G9 g) (I : CLi h w A n L b im wi f) (J : MDi h w A n L b im wi f) (K : BTi w A n L b im wi) {x y : Int} (KK : ∀ h1 c, AgJ g h1 mX12_fast [vR 281, vI x, vI y] c → PX (.inl (some (vI c))) g h1) : Call 43 3 18 mX11_fast [vR 0, vI x, vI y] g h (WrJ [(xIO, 1), (xIA, 2), (xIS, 3)] 300 g PX) := by
  refine C_X11_fast (d := 40) (X := 0) G.1 I.1 K.1 I.2.1 K.2.1 I.2.2.1 ?_ ?_ ?_ ?_
  · intro a1
    refine WrJ.x (c := 1) List.mem_cons_self (KK _ _ (fun P2 K2 => ?_))
    have I1 := I
    have J1 := J
    refine C_X12_fast (d := 41) (M := 281) G.2.1 J1.1 K.1 J1.2.1 ?_ ?_ ?_ ?_
    · intro b1 h2 pM
      exact endX (v0 := 0) (by decide) K2 (qM I1 J1 K pM)
    · intro b1 b2 h2 pM
      first | (exfalso; omega) | (exfalso; omega)
    · intro j2 b1 b2 b3 b4 h2 pM
      first | (exfalso; omega) | (exfalso; omega)
    · intro j2 b1 b2 b3 b4 h2 pM b6 b7
      first | (exfalso; omega) | (exfalso; omega)
  · intro a1 a2
    refine WrJ.x (c := 2) (List.mem_cons_of_mem _ List.mem_cons_self) (KK _ _ (fun P2 K2 => ?_))
    have I1 := I
    have J1 := J
    refine C_X12_fast (d := 41) (M := 281) G.2.1 J1.1 K.1 J1.2.1 ?_ ?_ ?_ ?_
    · intro b1 h2 pM
      first | (exfalso; omega) | (exfalso; omega)
    · intro b1 b2 h2 pM
      exact endX (v0 := 0) (by decide) K2 (qM I1 J1 K pM)
    · intro j2 b1 b2 b3 b4 h2 pM
      first | (exfalso; omega) | (exfalso; omega)
    · intro j2 b1 b2 b3 b4 h2 pM b6 b7
      first | (exfalso; omega) | (exfalso; omega)
  · intro j a1 a2 a3 a4
    refine WrJ.x (c := 3) (List.mem_cons_of_mem _ (List.mem_cons_of_mem _ List.mem_cons_self)) (KK _ _ (fun P2 K2 => ?_))
    have I1 := I
    have J1 := J
    refine C_X12_fast (d := 41) (M := 281) G.2.1 J1.1 K.1 J1.2.1 ?_ ?_ ?_ ?_
    · intro b1 h2 pM
      first | (exfalso; omega) | (exfalso; omega)
    · intro b1 b2 h2 pM
      first | (exfalso; omega) | (exfalso; omega)
    · intro j2 b1 b2 b3 b4 h2 pM
      obtain rfl : j2 = j := by omega
      exact endX (v0 := 0) (by decide) K2 (qM I1 J1 K pM)
    · intro j2 b1 b2 b3 b4 h2 pM b6 b7
      first | (exfalso; omega) | (obtain rfl : j2 = j := (by omega); exfalso; omega)
  · intro j a1 a2 a3 a4 h1 oX a6 a7
    have hs9 : SameL w (updW w (80 + 4 * j) y) := (by have hj9 := K.1.jud; have hc9 := K.1.cas; exact (SameL.rf w).upd (by omega) (by omega))
    have hf9 : WF (updW w (80 + 4 * j) y) := (by have hj9 := K.1.jud; have hc9 := K.1.cas; exact K.1.uhu (by omega) (by omega))
    refine WrJ.v (KK _ _ (fun P2 K2 => ?_))
    have I1 := ((I.ac hs9 oX a6 a7)).out (v := (w (80 + 4 * j)))
    have J1 := ((J.off oX (fun q hq => by unfold actS xsc mts at hq; omega))).out (v := (w (80 + 4 * j)))
    refine C_X12_fast (d := 41) (M := 281) G.2.1 J1.1 K.1 J1.2.1 ?_ ?_ ?_ ?_
    · intro b1 h2 pM
      first | (exfalso; omega) | (exfalso; omega)
    · intro b1 b2 h2 pM
      first | (exfalso; omega) | (exfalso; omega)
    · intro j2 b1 b2 b3 b4 h2 pM
      first | (exfalso; omega) | (obtain rfl : j2 = j := (by omega); exfalso; omega)
    · intro j2 b1 b2 b3 b4 h2 pM b6 b7
      obtain rfl : j2 = j := by omega
      exact endV K2 (qA I1 J1 K hs9 hf9 pM b6 b7)
theorem AG_inn {g : Gs} {h : Hc} {PX : Po} {w : Nat → Int} {A : Nat → Nat → Int} {n L : Nat} {b : Nat → Int} {im : Int} {wi : Nat → Int} {f : Int} (G : G9 g) (I : CLi h w A n L b im wi f) (J : MDi h w A n L b im wi f) (K : BTi w A n L b im wi) {x y : Int} (KK : ∀ h1 c, AgJ g h1 mX12_inn [vR 281, vI x, vI y] c → PX (.inl (some (vI c))) g h1) : Call 43 2 12 mX11_inn [vR 0, vI x, vI y] g h (WrJ [(xIO, 1), (xIA, 2)] 300 g PX) := by
  refine C_X11_inn (d := 40) (X := 0) G.1 I.1 K.1 I.2.1 K.2.1 I.2.2.1 ?_ ?_ ?_
  · intro a1
    refine WrJ.x (c := 1) List.mem_cons_self (KK _ _ (fun P2 K2 => ?_))
    have I1 := I
    have J1 := J
    refine C_X12_inn (d := 41) (M := 281) G.2.1 J1.1 K.1 J1.2.1 ?_ ?_ ?_
    · intro b1 h2 pM
      exact endX (v0 := 0) (by decide) K2 (qM I1 J1 K pM)
    · intro b1 b2 h2 pM
      first | (exfalso; omega) | (exfalso; omega)
    · intro k2 b1 b2 b3 h2 pM b5 b6
      first | (exfalso; omega) | (exfalso; omega)
  · intro a1 a2
    refine WrJ.x (c := 2) (List.mem_cons_of_mem _ List.mem_cons_self) (KK _ _ (fun P2 K2 => ?_))
    have I1 := I
    have J1 := J
    refine C_X12_inn (d := 41) (M := 281) G.2.1 J1.1 K.1 J1.2.1 ?_ ?_ ?_
    · intro b1 h2 pM
      first | (exfalso; omega) | (exfalso; omega)
    · intro b1 b2 h2 pM
      exact endX (v0 := 0) (by decide) K2 (qM I1 J1 K pM)
    · intro k2 b1 b2 b3 h2 pM b5 b6
      first | (exfalso; omega) | (exfalso; omega)
  · intro k a1 a2 a3 h1 oX a5 a6
    have hs9 : SameL w (updW w (8 + k) y) := (by have hj9 := K.1.jud; have hc9 := K.1.cas; exact (SameL.rf w).upd (by omega) (by omega))
    have hf9 : WF (updW w (8 + k) y) := (by have hj9 := K.1.jud; have hc9 := K.1.cas; exact K.1.uin (by omega) (by omega))
    refine WrJ.v (KK _ _ (fun P2 K2 => ?_))
    have I1 := ((I.ac hs9 oX a5 a6)).out (v := (w (8 + k)))
    have J1 := ((J.off oX (fun q hq => by unfold actS xsc mts at hq; omega))).out (v := (w (8 + k)))
    refine C_X12_inn (d := 41) (M := 281) G.2.1 J1.1 K.1 J1.2.1 ?_ ?_ ?_
    · intro b1 h2 pM
      first | (exfalso; omega) | (exfalso; omega)
    · intro b1 b2 h2 pM
      first | (exfalso; omega) | (exfalso; omega)
    · intro k2 b1 b2 b3 h2 pM b5 b6
      obtain rfl : k2 = k := by omega
      exact endV K2 (qA I1 J1 K hs9 hf9 pM b5 b6)
theorem AG_grave {g : Gs} {h : Hc} {PX : Po} {w : Nat → Int} {A : Nat → Nat → Int} {n L : Nat} {b : Nat → Int} {im : Int} {wi : Nat → Int} {f : Int} (G : G9 g) (I : CLi h w A n L b im wi f) (J : MDi h w A n L b im wi f) (K : BTi w A n L b im wi) {x y : Int} (KK : ∀ h1 c, AgJ g h1 mX12_grave [vR 281, vI x, vI y] c → PX (.inl (some (vI c))) g h1) : Call 43 2 12 mX11_grave [vR 0, vI x, vI y] g h (WrJ [(xIO, 1), (xIA, 2)] 300 g PX) := by
  refine C_X11_grave (d := 40) (X := 0) G.1 I.1 K.1 I.2.1 K.2.1 I.2.2.1 ?_ ?_ ?_
  · intro a1
    refine WrJ.x (c := 1) List.mem_cons_self (KK _ _ (fun P2 K2 => ?_))
    have I1 := I
    have J1 := J
    refine C_X12_grave (d := 41) (M := 281) G.2.1 J1.1 K.1 J1.2.1 ?_ ?_ ?_
    · intro b1 h2 pM
      exact endX (v0 := 0) (by decide) K2 (qM I1 J1 K pM)
    · intro b1 b2 h2 pM
      first | (exfalso; omega) | (exfalso; omega)
    · intro c2 b1 b2 b3 h2 pM b5 b6
      first | (exfalso; omega) | (exfalso; omega)
  · intro a1 a2
    refine WrJ.x (c := 2) (List.mem_cons_of_mem _ List.mem_cons_self) (KK _ _ (fun P2 K2 => ?_))
    have I1 := I
    have J1 := J
    refine C_X12_grave (d := 41) (M := 281) G.2.1 J1.1 K.1 J1.2.1 ?_ ?_ ?_
    · intro b1 h2 pM
      first | (exfalso; omega) | (exfalso; omega)
    · intro b1 b2 h2 pM
      exact endX (v0 := 0) (by decide) K2 (qM I1 J1 K pM)
    · intro c2 b1 b2 b3 h2 pM b5 b6
      first | (exfalso; omega) | (exfalso; omega)
  · intro c a1 a2 a3 h1 oX a5 a6
    have hs9 : SameL w (updW w (101 + 7 * c) y) := (by have hj9 := K.1.jud; have hc9 := K.1.cas; exact (SameL.rf w).upd (by omega) (by omega))
    have hf9 : WF (updW w (101 + 7 * c) y) := (by have hj9 := K.1.jud; have hc9 := K.1.cas; exact K.1.ugr (by omega) (by omega))
    refine WrJ.v (KK _ _ (fun P2 K2 => ?_))
    have I1 := ((I.ac hs9 oX a5 a6)).out (v := (w (101 + 7 * c)))
    have J1 := ((J.off oX (fun q hq => by unfold actS xsc mts at hq; omega))).out (v := (w (101 + 7 * c)))
    refine C_X12_grave (d := 41) (M := 281) G.2.1 J1.1 K.1 J1.2.1 ?_ ?_ ?_
    · intro b1 h2 pM
      first | (exfalso; omega) | (exfalso; omega)
    · intro b1 b2 h2 pM
      first | (exfalso; omega) | (exfalso; omega)
    · intro c2 b1 b2 b3 h2 pM b5 b6
      obtain rfl : c2 = c := by omega
      exact endV K2 (qA I1 J1 K hs9 hf9 pM b5 b6)
theorem AG_strike {g : Gs} {h : Hc} {PX : Po} {w : Nat → Int} {A : Nat → Nat → Int} {n L : Nat} {b : Nat → Int} {im : Int} {wi : Nat → Int} {f : Int} (G : G9 g) (I : CLi h w A n L b im wi f) (J : MDi h w A n L b im wi f) (K : BTi w A n L b im wi) {x y : Int} (KK : ∀ h1 c, AgJ g h1 mX12_strike [vR 281, vI x, vI y] c → PX (.inl (some (vI c))) g h1) : Call 43 3 18 mX11_strike [vR 0, vI x, vI y] g h (WrJ [(xIO, 1), (xIS, 2)] 300 g PX) := by
  refine C_X11_strike (d := 40) (X := 0) G.1 I.1 K.1 I.2.1 K.2.1 I.2.2.1 ?_ ?_ ?_
  · intro a1
    refine WrJ.x (c := 1) List.mem_cons_self (KK _ _ (fun P2 K2 => ?_))
    have I1 := I
    have J1 := J
    refine C_X12_strike (d := 41) (M := 281) G.2.1 J1.1 K.1 J1.2.1 ?_ ?_ ?_
    · intro b1 h2 pM
      exact endX (v0 := 0) (by decide) K2 (qM I1 J1 K pM)
    · intro j2 k2 b1 b2 b3 b4 b5 h2 pM
      first | (exfalso; omega) | (exfalso; omega)
    · intro j2 k2 b1 b2 b3 b4 b5 h2 pM b7 b8
      first | (exfalso; omega) | (exfalso; omega)
  · intro j k a1 a2 a3 a4 a5
    refine WrJ.x (c := 2) (List.mem_cons_of_mem _ List.mem_cons_self) (KK _ _ (fun P2 K2 => ?_))
    have I1 := I
    have J1 := J
    refine C_X12_strike (d := 41) (M := 281) G.2.1 J1.1 K.1 J1.2.1 ?_ ?_ ?_
    · intro b1 h2 pM
      first | (exfalso; omega) | (exfalso; omega)
    · intro j2 k2 b1 b2 b3 b4 b5 h2 pM
      obtain rfl : j2 = j := by omega
      obtain rfl : k2 = k := by omega
      exact endX (v0 := 0) (by decide) K2 (qM I1 J1 K pM)
    · intro j2 k2 b1 b2 b3 b4 b5 h2 pM b7 b8
      first | (exfalso; omega) | (obtain rfl : j2 = j := (by omega); obtain rfl : k2 = k := (by omega); exfalso; omega)
  · intro j k a1 a2 a3 a4 a5 h1 oX a7 a8
    have hs9 : SameL w (updW w (20 + (12 * j + k)) (-1)) := (by have hj9 := K.1.jud; have hc9 := K.1.cas; exact (SameL.rf w).upd (by omega) (by omega))
    have hf9 : WF (updW w (20 + (12 * j + k)) (-1)) := (by have hj9 := K.1.jud; have hc9 := K.1.cas; exact K.1.upl (by omega) (Or.inl rfl))
    refine WrJ.v (KK _ _ (fun P2 K2 => ?_))
    have I1 := ((I.ac hs9 oX a7 a8)).out (v := (w (20 + (12 * j + k))))
    have J1 := ((J.off oX (fun q hq => by unfold actS xsc mts at hq; omega))).out (v := (w (20 + (12 * j + k))))
    refine C_X12_strike (d := 41) (M := 281) G.2.1 J1.1 K.1 J1.2.1 ?_ ?_ ?_
    · intro b1 h2 pM
      first | (exfalso; omega) | (exfalso; omega)
    · intro j2 k2 b1 b2 b3 b4 b5 h2 pM
      first | (exfalso; omega) | (obtain rfl : j2 = j := (by omega); obtain rfl : k2 = k := (by omega); exfalso; omega)
    · intro j2 k2 b1 b2 b3 b4 b5 h2 pM b7 b8
      obtain rfl : j2 = j := by omega
      obtain rfl : k2 = k := by omega
      exact endV K2 (qA I1 J1 K hs9 hf9 pM b7 b8)
theorem AG_appeal {g : Gs} {h : Hc} {PX : Po} {w : Nat → Int} {A : Nat → Nat → Int} {n L : Nat} {b : Nat → Int} {im : Int} {wi : Nat → Int} {f : Int} (G : G9 g) (I : CLi h w A n L b im wi f) (J : MDi h w A n L b im wi f) (K : BTi w A n L b im wi) {x : Int} (KK : ∀ h1 c, AgJ g h1 mX12_appeal [vR 281, vI x] c → PX (.inl (some (vI c))) g h1) : Call 43 2 12 mX11_appeal [vR 0, vI x] g h (WrJ [(xIO, 1), (xIS, 2)] 300 g PX) := by
  refine C_X11_appeal (d := 40) (X := 0) G.1 I.1 K.1 I.2.1 K.2.1 I.2.2.1 ?_ ?_ ?_
  · intro a1
    refine WrJ.x (c := 1) List.mem_cons_self (KK _ _ (fun P2 K2 => ?_))
    have I1 := I
    have J1 := J
    refine C_X12_appeal (d := 41) (M := 281) G.2.1 J1.1 K.1 J1.2.1 ?_ ?_ ?_
    · intro b1 h2 pM
      exact endX (v0 := 0) (by decide) K2 (qM I1 J1 K pM)
    · intro c2 b1 b2 b3 h2 pM
      first | (exfalso; omega) | (exfalso; omega)
    · intro c2 b1 b2 b3 h2 pM b5 b6
      first | (exfalso; omega) | (exfalso; omega)
  · intro c a1 a2 a3
    refine WrJ.x (c := 2) (List.mem_cons_of_mem _ List.mem_cons_self) (KK _ _ (fun P2 K2 => ?_))
    have I1 := I
    have J1 := J
    refine C_X12_appeal (d := 41) (M := 281) G.2.1 J1.1 K.1 J1.2.1 ?_ ?_ ?_
    · intro b1 h2 pM
      first | (exfalso; omega) | (exfalso; omega)
    · intro c2 b1 b2 b3 h2 pM
      obtain rfl : c2 = c := by omega
      exact endX (v0 := 0) (by decide) K2 (qM I1 J1 K pM)
    · intro c2 b1 b2 b3 h2 pM b5 b6
      first | (exfalso; omega) | (obtain rfl : c2 = c := (by omega); exfalso; omega)
  · intro c a1 a2 a3 h1 oX a5 a6
    have hs9 : SameL w (updW (updW (updW w (104 + 7 * c) 0) (105 + 7 * c) (-1)) (106 + 7 * c) (-1)) := (by have hj9 := K.1.jud; have hc9 := K.1.cas; exact (((SameL.rf w).upd (by omega) (by omega)).upd (by omega) (by omega)).upd (by omega) (by omega))
    have hf9 : WF (updW (updW (updW w (104 + 7 * c) 0) (105 + 7 * c) (-1)) (106 + 7 * c) (-1)) := (by have hj9 := K.1.jud; have hc9 := K.1.cas; exact ((K.1.ust (by omega) (by omega) ⟨Int.le_refl _, by decide⟩).uby (by omega) (by decide)).udy (by omega) (by decide))
    refine WrJ.v (KK _ _ (fun P2 K2 => ?_))
    have I1 := ((I.ac hs9 oX a5 a6)).out (v := (w (104 + 7 * c)))
    have J1 := ((J.off oX (fun q hq => by unfold actS xsc mts at hq; omega))).out (v := (w (104 + 7 * c)))
    refine C_X12_appeal (d := 41) (M := 281) G.2.1 J1.1 K.1 J1.2.1 ?_ ?_ ?_
    · intro b1 h2 pM
      first | (exfalso; omega) | (exfalso; omega)
    · intro c2 b1 b2 b3 h2 pM
      first | (exfalso; omega) | (obtain rfl : c2 = c := (by omega); exfalso; omega)
    · intro c2 b1 b2 b3 h2 pM b5 b6
      obtain rfl : c2 = c := by omega
      exact endV K2 (qA I1 J1 K hs9 hf9 pM b5 b6)
theorem AG_list {g : Gs} {h : Hc} {PX : Po} {w : Nat → Int} {A : Nat → Nat → Int} {n L : Nat} {b : Nat → Int} {im : Int} {wi : Nat → Int} {f : Int} (G : G9 g) (I : CLi h w A n L b im wi f) (J : MDi h w A n L b im wi f) (K : BTi w A n L b im wi) {x y z : Int} (KK : ∀ h1 c, AgJ g h1 mX12_list [vR 281, vI x, vI y, vI z] c → PX (.inl (some (vI c))) g h1) : Call 43 4 24 mX11_list [vR 0, vI x, vI y, vI z] g h (WrJ [(xIO, 1), (xIS, 2)] 300 g PX) := by
  refine C_X11_list (d := 40) (X := 0) G.1 I.1 K.1 I.2.1 K.2.1 I.2.2.1 ?_ ?_ ?_
  · intro a1
    refine WrJ.x (c := 1) List.mem_cons_self (KK _ _ (fun P2 K2 => ?_))
    have I1 := I
    have J1 := J
    refine C_X12_list (d := 41) (M := 281) G.2.1 J1.1 K.1 J1.2.1 ?_ ?_ ?_
    · intro b1 h2 pM
      exact endX (v0 := 0) (by decide) K2 (qM I1 J1 K pM)
    · intro j2 k2 c2 b1 b2 b3 b4 b5 b6 b7 h2 pM
      first | (exfalso; omega) | (exfalso; omega)
    · intro j2 k2 c2 b1 b2 b3 b4 b5 b6 b7 h2 pM b9 b10
      first | (exfalso; omega) | (exfalso; omega)
  · intro j k c a1 a2 a3 a4 a5 a6 a7
    refine WrJ.x (c := 2) (List.mem_cons_of_mem _ List.mem_cons_self) (KK _ _ (fun P2 K2 => ?_))
    have I1 := I
    have J1 := J
    refine C_X12_list (d := 41) (M := 281) G.2.1 J1.1 K.1 J1.2.1 ?_ ?_ ?_
    · intro b1 h2 pM
      first | (exfalso; omega) | (exfalso; omega)
    · intro j2 k2 c2 b1 b2 b3 b4 b5 b6 b7 h2 pM
      obtain rfl : j2 = j := by omega
      obtain rfl : k2 = k := by omega
      obtain rfl : c2 = c := by omega
      exact endX (v0 := 0) (by decide) K2 (qM I1 J1 K pM)
    · intro j2 k2 c2 b1 b2 b3 b4 b5 b6 b7 h2 pM b9 b10
      first | (exfalso; omega) | (obtain rfl : j2 = j := (by omega); obtain rfl : k2 = k := (by omega); obtain rfl : c2 = c := (by omega); exfalso; omega)
  · intro j k c a1 a2 a3 a4 a5 a6 a7 h1 oX a9 a10
    have hs9 : SameL w (updW (stW w (c : Int)) (20 + (12 * j + k)) (c : Int)) := (by have hj9 := K.1.jud; have hc9 := K.1.cas; exact SameL.upd (fun i hi => stW_n (by omega)) (by omega) (by omega))
    have hf9 : WF (updW (stW w (c : Int)) (20 + (12 * j + k)) (c : Int)) := (by have hj9 := K.1.jud; have hc9 := K.1.cas; exact (stW_wf K.1 _).upl (by omega) (Or.inr ⟨⟨by omega, by rw [stW_n (by omega)]; omega⟩, stW_no K.1, by rw [stW_n (by omega)]; omega⟩))
    refine WrJ.v (KK _ _ (fun P2 K2 => ?_))
    have I1 := ((I.ac hs9 oX a9 a10)).out (v := (w (20 + (12 * j + k))))
    have J1 := ((J.off oX (fun q hq => by unfold actS xsc mts at hq; omega))).out (v := (w (20 + (12 * j + k))))
    refine C_X12_list (d := 41) (M := 281) G.2.1 J1.1 K.1 J1.2.1 ?_ ?_ ?_
    · intro b1 h2 pM
      first | (exfalso; omega) | (exfalso; omega)
    · intro j2 k2 c2 b1 b2 b3 b4 b5 b6 b7 h2 pM
      first | (exfalso; omega) | (obtain rfl : j2 = j := (by omega); obtain rfl : k2 = k := (by omega); obtain rfl : c2 = c := (by omega); exfalso; omega)
    · intro j2 k2 c2 b1 b2 b3 b4 b5 b6 b7 h2 pM b9 b10
      obtain rfl : j2 = j := by omega
      obtain rfl : k2 = k := by omega
      obtain rfl : c2 = c := by omega
      exact endV K2 (qA I1 J1 K hs9 hf9 pM b9 b10)
theorem AG_hours {g : Gs} {h : Hc} {PX : Po} {w : Nat → Int} {A : Nat → Nat → Int} {n L : Nat} {b : Nat → Int} {im : Int} {wi : Nat → Int} {f : Int} (G : G9 g) (I : CLi h w A n L b im wi f) (J : MDi h w A n L b im wi f) (K : BTi w A n L b im wi) {x : Int} (KK : ∀ h1 c, AgJ g h1 mX12_hours [vR 281, vI x] c → PX (.inl (some (vI c))) g h1) : Call 43 1 6 mX11_hours [vR 0, vI x] g h (WrJ [(xIA, 1)] 300 g PX) := by
  refine C_X11_hours (d := 37) (X := 0) G.1 I.1 K.1 I.2.1 K.2.1 I.2.2.1 ?_ ?_
  · intro a1
    refine WrJ.x (c := 1) List.mem_cons_self (KK _ _ (fun P2 K2 => ?_))
    have I1 := I
    have J1 := J
    refine C_X12_hours (d := 32) (M := 281) G.2.1 J1.1 K.1 K.2.1 J1.2.1 ?_ ?_
    · intro b1 h2 pM
      exact endX (v0 := 0) (by decide) K2 (qM I1 J1 K pM)
    · intro k2 b1 b2 h2 pM b4 b5
      first | (exfalso; omega) | (exfalso; omega)
  · intro k a1 a2 h1 oX a4 a5
    have hs9 : SameL w ((goF w true k).1) := (goF_ok K.1 K.2.1 true k).2.2.1
    have hf9 : WF ((goF w true k).1) := (goF_ok K.1 K.2.1 true k).1
    refine WrJ.v (KK _ _ (fun P2 K2 => ?_))
    have I1 := ((I.ac hs9 oX a4 a5)).out (v := ((((goF w true k).2 : Nat) : Int)))
    have J1 := ((J.off oX (fun q hq => by unfold actS xsc mts at hq; omega))).out (v := ((((goF w true k).2 : Nat) : Int)))
    refine C_X12_hours (d := 32) (M := 281) G.2.1 J1.1 K.1 K.2.1 J1.2.1 ?_ ?_
    · intro b1 h2 pM
      first | (exfalso; omega) | (exfalso; omega)
    · intro k2 b1 b2 h2 pM b4 b5
      obtain rfl : k2 = k := by omega
      exact endV K2 (qA I1 J1 K hs9 hf9 pM b4 b5)
theorem AG_count_0 {g : Gs} {h : Hc} {PX : Po} {w : Nat → Int} {A : Nat → Nat → Int} {n L : Nat} {b : Nat → Int} {im : Int} {wi : Nat → Int} {f : Int} (G : G9 g) (I : CLi h w A n L b im wi f) (J : MDi h w A n L b im wi f) (K : BTi w A n L b im wi) (KK : ∀ h1 v, AgV g h1 mX12_count [vR 281, vI 0] v → PX (.inl (some (vI v))) g h1) : Call 44 0 0 mX11_count [vR 0, vI 0] g h PX := by
  refine C_X11_count_0 (d := 43) (X := 0) G.1 I.1 K.1 I.2.1 K.2.1 I.2.2.1 ?_
  refine KK _ _ (fun P2 K2 => ?_)
  have I1 := I
  have J1 := J
  refine C_X12_count_0 (d := 40) (M := 281) G.2.1 J1.1 K.1 K.2.1 ?_
  intro h2 pM
  exact K2 h2 (qM I1 J1 K pM).1
theorem AG_count_1 {g : Gs} {h : Hc} {PX : Po} {w : Nat → Int} {A : Nat → Nat → Int} {n L : Nat} {b : Nat → Int} {im : Int} {wi : Nat → Int} {f : Int} (G : G9 g) (I : CLi h w A n L b im wi f) (J : MDi h w A n L b im wi f) (K : BTi w A n L b im wi) (KK : ∀ h1 v, AgV g h1 mX12_count [vR 281, vI 1] v → PX (.inl (some (vI v))) g h1) : Call 44 0 0 mX11_count [vR 0, vI 1] g h PX := by
  refine C_X11_count_1 (d := 43) (X := 0) G.1 I.1 K.1 I.2.1 K.2.1 I.2.2.1 ?_
  refine KK _ _ (fun P2 K2 => ?_)
  have I1 := I
  have J1 := J
  refine C_X12_count_1 (d := 40) (M := 281) G.2.1 J1.1 K.1 K.2.1 ?_
  intro h2 pM
  exact K2 h2 (qM I1 J1 K pM).1
theorem AG_count_2 {g : Gs} {h : Hc} {PX : Po} {w : Nat → Int} {A : Nat → Nat → Int} {n L : Nat} {b : Nat → Int} {im : Int} {wi : Nat → Int} {f : Int} (G : G9 g) (I : CLi h w A n L b im wi f) (J : MDi h w A n L b im wi f) (K : BTi w A n L b im wi) (KK : ∀ h1 v, AgV g h1 mX12_count [vR 281, vI 2] v → PX (.inl (some (vI v))) g h1) : Call 44 0 0 mX11_count [vR 0, vI 2] g h PX := by
  refine C_X11_count_2 (d := 43) (X := 0) G.1 I.1 K.1 I.2.1 K.2.1 I.2.2.1 ?_
  refine KK _ _ (fun P2 K2 => ?_)
  have I1 := I
  have J1 := J
  refine C_X12_count_2 (d := 40) (M := 281) G.2.1 J1.1 K.1 K.2.1 ?_
  intro h2 pM
  exact K2 h2 (qM I1 J1 K pM).1
theorem AG_count_3 {g : Gs} {h : Hc} {PX : Po} {w : Nat → Int} {A : Nat → Nat → Int} {n L : Nat} {b : Nat → Int} {im : Int} {wi : Nat → Int} {f : Int} (G : G9 g) (I : CLi h w A n L b im wi f) (J : MDi h w A n L b im wi f) (K : BTi w A n L b im wi) (KK : ∀ h1 v, AgV g h1 mX12_count [vR 281, vI 3] v → PX (.inl (some (vI v))) g h1) : Call 44 0 0 mX11_count [vR 0, vI 3] g h PX := by
  refine C_X11_count_3 (d := 43) (X := 0) G.1 I.1 K.1 I.2.1 K.2.1 I.2.2.1 ?_
  refine KK _ _ (fun P2 K2 => ?_)
  have I1 := I
  have J1 := J
  refine C_X12_count_3 (d := 40) (M := 281) G.2.1 J1.1 K.1 K.2.1 ?_
  intro h2 pM
  exact K2 h2 (qM I1 J1 K pM).1
theorem AG_count_4 {g : Gs} {h : Hc} {PX : Po} {w : Nat → Int} {A : Nat → Nat → Int} {n L : Nat} {b : Nat → Int} {im : Int} {wi : Nat → Int} {f : Int} (G : G9 g) (I : CLi h w A n L b im wi f) (J : MDi h w A n L b im wi f) (K : BTi w A n L b im wi) (KK : ∀ h1 v, AgV g h1 mX12_count [vR 281, vI 4] v → PX (.inl (some (vI v))) g h1) : Call 44 0 0 mX11_count [vR 0, vI 4] g h PX := by
  refine C_X11_count_4 (d := 43) (X := 0) G.1 I.1 K.1 I.2.1 K.2.1 I.2.2.1 ?_
  refine KK _ _ (fun P2 K2 => ?_)
  have I1 := I
  have J1 := J
  refine C_X12_count_4 (d := 40) (M := 281) G.2.1 J1.1 K.1 K.2.1 ?_
  intro h2 pM
  exact K2 h2 (qM I1 J1 K pM).1
theorem AG_count_5 {g : Gs} {h : Hc} {PX : Po} {w : Nat → Int} {A : Nat → Nat → Int} {n L : Nat} {b : Nat → Int} {im : Int} {wi : Nat → Int} {f : Int} (G : G9 g) (I : CLi h w A n L b im wi f) (J : MDi h w A n L b im wi f) (K : BTi w A n L b im wi) (KK : ∀ h1 v, AgV g h1 mX12_count [vR 281, vI 5] v → PX (.inl (some (vI v))) g h1) : Call 44 0 0 mX11_count [vR 0, vI 5] g h PX := by
  refine C_X11_count_5 (d := 43) (X := 0) G.1 I.1 K.1 I.2.1 K.2.1 I.2.2.1 ?_
  refine KK _ _ (fun P2 K2 => ?_)
  have I1 := I
  have J1 := J
  refine C_X12_count_5 (d := 40) (M := 281) G.2.1 J1.1 K.1 K.2.1 ?_
  intro h2 pM
  exact K2 h2 (qM I1 J1 K pM).1
theorem AG_count_6 {g : Gs} {h : Hc} {PX : Po} {w : Nat → Int} {A : Nat → Nat → Int} {n L : Nat} {b : Nat → Int} {im : Int} {wi : Nat → Int} {f : Int} (G : G9 g) (I : CLi h w A n L b im wi f) (J : MDi h w A n L b im wi f) (K : BTi w A n L b im wi) (KK : ∀ h1 v, AgV g h1 mX12_count [vR 281, vI 6] v → PX (.inl (some (vI v))) g h1) : Call 44 0 0 mX11_count [vR 0, vI 6] g h PX := by
  refine C_X11_count_6 (d := 43) (X := 0) G.1 I.1 K.1 I.2.1 K.2.1 I.2.2.1 ?_
  refine KK _ _ (fun P2 K2 => ?_)
  have I1 := I
  have J1 := J
  refine C_X12_count_6 (d := 40) (M := 281) G.2.1 J1.1 K.1 K.2.1 ?_
  intro h2 pM
  exact K2 h2 (qM I1 J1 K pM).1
theorem AG_count_7 {g : Gs} {h : Hc} {PX : Po} {w : Nat → Int} {A : Nat → Nat → Int} {n L : Nat} {b : Nat → Int} {im : Int} {wi : Nat → Int} {f : Int} (G : G9 g) (I : CLi h w A n L b im wi f) (J : MDi h w A n L b im wi f) (K : BTi w A n L b im wi) (KK : ∀ h1 v, AgV g h1 mX12_count [vR 281, vI 7] v → PX (.inl (some (vI v))) g h1) : Call 44 0 0 mX11_count [vR 0, vI 7] g h PX := by
  refine C_X11_count_7 (d := 43) (X := 0) G.1 I.1 K.1 I.2.1 K.2.1 I.2.2.1 ?_
  refine KK _ _ (fun P2 K2 => ?_)
  have I1 := I
  have J1 := J
  refine C_X12_count_7 (d := 40) (M := 281) G.2.1 J1.1 K.1 K.2.1 ?_
  intro h2 pM
  exact K2 h2 (qM I1 J1 K pM).1
theorem AG_count_8 {g : Gs} {h : Hc} {PX : Po} {w : Nat → Int} {A : Nat → Nat → Int} {n L : Nat} {b : Nat → Int} {im : Int} {wi : Nat → Int} {f : Int} (G : G9 g) (I : CLi h w A n L b im wi f) (J : MDi h w A n L b im wi f) (K : BTi w A n L b im wi) (KK : ∀ h1 v, AgV g h1 mX12_count [vR 281, vI 8] v → PX (.inl (some (vI v))) g h1) : Call 44 0 0 mX11_count [vR 0, vI 8] g h PX := by
  refine C_X11_count_8 (d := 43) (X := 0) G.1 I.1 K.1 I.2.1 K.2.1 I.2.2.1 ?_
  refine KK _ _ (fun P2 K2 => ?_)
  have I1 := I
  have J1 := J
  refine C_X12_count_8 (d := 40) (M := 281) G.2.1 J1.1 K.1 K.2.1 ?_
  intro h2 pM
  exact K2 h2 (qM I1 J1 K pM).1
theorem AG_count_9 {g : Gs} {h : Hc} {PX : Po} {w : Nat → Int} {A : Nat → Nat → Int} {n L : Nat} {b : Nat → Int} {im : Int} {wi : Nat → Int} {f : Int} (G : G9 g) (I : CLi h w A n L b im wi f) (J : MDi h w A n L b im wi f) (K : BTi w A n L b im wi) (KK : ∀ h1 v, AgV g h1 mX12_count [vR 281, vI 9] v → PX (.inl (some (vI v))) g h1) : Call 44 0 0 mX11_count [vR 0, vI 9] g h PX := by
  refine C_X11_count_9 (d := 43) (X := 0) G.1 I.1 K.1 I.2.1 K.2.1 I.2.2.1 ?_
  refine KK _ _ (fun P2 K2 => ?_)
  have I1 := I
  have J1 := J
  refine C_X12_count_9 (d := 40) (M := 281) G.2.1 J1.1 K.1 K.2.1 ?_
  intro h2 pM
  exact K2 h2 (qM I1 J1 K pM).1
theorem AG_count_n {g : Gs} {h : Hc} {PX : Po} {w : Nat → Int} {A : Nat → Nat → Int} {n L : Nat} {b : Nat → Int} {im : Int} {wi : Nat → Int} {f : Int} (G : G9 g) (I : CLi h w A n L b im wi f) (J : MDi h w A n L b im wi f) (K : BTi w A n L b im wi) {y : Int} (hy : ¬ (0 ≤ y ∧ y ≤ 10)) (KK : ∀ h1 v, AgV g h1 mX12_count [vR 281, vI y] v → PX (.inl (some (vI v))) g h1) : Call 44 0 0 mX11_count [vR 0, vI y] g h PX := by
  refine C_X11_count_n (d := 43) (X := 0) G.1 I.1 K.1 I.2.1 K.2.1 hy ?_
  refine KK _ _ (fun P2 K2 => ?_)
  have I1 := I
  have J1 := J
  refine C_X12_count_n (d := 40) (M := 281) G.2.1 J1.1 K.1 K.2.1 hy ?_
  intro h2 pM
  exact K2 h2 (qM I1 J1 K pM).1
theorem AG_pairs {g : Gs} {h : Hc} {PX : Po} {w : Nat → Int} {A : Nat → Nat → Int} {n L : Nat} {b : Nat → Int} {im : Int} {wi : Nat → Int} {f : Int} (G : G9 g) (I : CLi h w A n L b im wi f) (J : MDi h w A n L b im wi f) (K : BTi w A n L b im wi) {x : Int} (hxn : ¬ x = -1) (KK : ∀ h1 c, AgJ g h1 mX12_pairs [vR 281, vI x] c → PX (.inl (some (vI c))) g h1) : Call 43 1 6 mX11_pairs [vR 0, vI x] g h (WrJ [(xIO, 1)] 300 g PX) := by
  refine C_X11_pairs (d := 35) (X := 0) G.1 I.1 K.1 I.2.1 K.2.1 hxn ?_ ?_
  · intro a1
    refine WrJ.x (c := 1) List.mem_cons_self (KK _ _ (fun P2 K2 => ?_))
    have I1 := I
    have J1 := J
    refine C_X12_pairs (d := 31) (M := 281) G.2.1 J1.1 K.1 K.2.1 hxn ?_ ?_
    · intro b1 h2 pM
      exact endX (v0 := 0) (by decide) K2 (qM I1 J1 K pM)
    · intro j2 b1 b2 h2 pM
      first | (exfalso; omega) | (exfalso; omega)
  · intro j a1 a2 h1 oX
    refine WrJ.v (KK _ _ (fun P2 K2 => ?_))
    have I1 := ((I.xs oX)).out (v := ((prW w).2 j))
    have J1 := ((J.xs oX)).out (v := ((prW w).2 j))
    refine C_X12_pairs (d := 31) (M := 281) G.2.1 J1.1 K.1 K.2.1 hxn ?_ ?_
    · intro b1 h2 pM
      first | (exfalso; omega) | (exfalso; omega)
    · intro j2 b1 b2 h2 pM
      obtain rfl : j2 = j := by omega
      exact endV K2 (qM I1 J1 K pM)
theorem AG_pairs_n {g : Gs} {h : Hc} {PX : Po} {w : Nat → Int} {A : Nat → Nat → Int} {n L : Nat} {b : Nat → Int} {im : Int} {wi : Nat → Int} {f : Int} (G : G9 g) (I : CLi h w A n L b im wi f) (J : MDi h w A n L b im wi f) (K : BTi w A n L b im wi) (KK : ∀ h1 c, AgJ g h1 mX12_pairs [vR 281, vI (-1)] c → PX (.inl (some (vI c))) g h1) : Call 43 0 0 mX11_pairs [vR 0, vI (-1)] g h (WrJ [(xIO, 1)] 300 g PX) := by
  refine C_X11_pairs_n (d := 35) (X := 0) G.1 I.1 K.1 I.2.1 K.2.1 ?_
  intro h1 oX
  refine WrJ.v (KK _ _ (fun P2 K2 => ?_))
  have I1 := ((I.xs oX)).out (v := (prW w).1)
  have J1 := ((J.xs oX)).out (v := (prW w).1)
  refine C_X12_pairs_n (d := 31) (M := 281) G.2.1 J1.1 K.1 K.2.1 ?_
  intro h2 pM
  exact endV K2 (qM I1 J1 K pM)
