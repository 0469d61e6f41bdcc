/-! THE QUESTIONS: THE CLASS AND THE MODEL AGREE -/
/-- the model's call that follows, its answer told: the code thrown, the value behind out -/
def AgJ (g : Gs) (h1 : Hc) (y : Mth) (av : List AV) (c : Int) : Prop := ∀ P : Po, (∀ h' r, IX h' → h' 281 0 = c → (c = 0 → h' 300 0 = r) → P (.inl (some (vI r))) g h') → Call 44 0 0 y av g h1 P
/-- without a wrapper: the value -/
def AgV (g : Gs) (h1 : Hc) (y : Mth) (av : List AV) (v : Int) : Prop := ∀ P : Po, (∀ h', IX h' → P (.inl (some (vI v))) g h') → Call 44 0 0 y av g h1 P
theorem WrJ.x {tb : List (String × Int)} {O : Nat} {g : Gs} {h : Hc} {P : Po} {E : String} {c : Int} (hc : (E, c) ∈ tb) (K : P (.inl (some (vI c))) g h) : WrJ tb O g P (.inr E) g h := ⟨rfl, c, hc, K⟩
theorem WrJ.v {tb : List (String × Int)} {O : Nat} {g : Gs} {h : Hc} {P : Po} {i : Int} (K : P (.inl (some (vI 0))) g (updH h O 0 i)) : WrJ tb O g P (.inl (some (vI i))) g h := ⟨rfl, i, rfl, K⟩
theorem WrJZ.x {tb : List (String × Int)} {O : Nat} {g : Gs} {h : Hc} {P : Po} {E : String} {c : Int} (hc : (E, c) ∈ tb) (K : P (.inl (some (vI c))) g h) : WrJZ tb O g P (.inr E) g h := ⟨rfl, c, hc, K⟩
theorem WrJZ.v {tb : List (String × Int)} {O : Nat} {g : Gs} {h : Hc} {P : Po} {i : Bool} (K : P (.inl (some (vI 0))) g (updH h O 0 (bI i))) : WrJZ tb O g P (.inl (some (vI (bI i)))) g h := ⟨rfl, i, rfl, K⟩
theorem endX {g : Gs} {h' : Hc} {P : Po} {c r : Int} {v0 : Int} {e : Nat → Int} (hc : ¬ c = 0) (K' : ∀ h' r, IX h' → h' 281 0 = c → (c = 0 → h' 300 0 = r) → P (.inl (some (vI r))) g h') (q : IX h' ∧ h' 281 0 = c ∧ h' 300 = e) : P (.inl (some (vI r))) g h' := K' h' r q.1 q.2.1 (fun e => absurd e hc)
theorem endV {g : Gs} {h h' : Hc} {P : Po} {v : Int} (K' : ∀ h' r, IX h' → h' 281 0 = 0 → ((0 : Int) = 0 → h' 300 0 = r) → P (.inl (some (vI r))) g h') (q : IX h' ∧ h' 281 0 = 0 ∧ h' 300 = updH h 300 0 v 300) : P (.inl (some (vI v))) g h' := K' h' v q.1 q.2.1 (fun _ => by rw [q.2.2]; exact updH_s _ _ _ _)
theorem AG_listed {g : Gs} {h : Hc} {PX : Po} {w : Nat → Int} {A : Nat → Nat → Int} {n L : Nat} {b : Nat → Int} {im : Int} {wi : Nat → Int} {f : Int} (G : G9 g) (I : CLi h w A n L b im wi f) (J : MDi h w A n L b im wi f) (K : BTi w A n L b im wi) {x y : Int} (KK : ∀ h1 c, AgJ g h1 mX12_listed [vR 281, vI x, vI y] c → PX (.inl (some (vI c))) g h1) : Call 43 2 12 mX11_listed [vR 0, vI x, vI y] g h (WrJ [(xIO, 1)] 300 g PX) := by
  refine C_X11_listed (d := 42) (X := 0) G.1 I.1 K.1 I.2.1 K.2.1 ?_ ?_
  · intro a1
    refine WrJ.x (c := 1) List.mem_cons_self (KK _ _ (fun P2 K2 => ?_))
    have I1 := I
    have J1 := J
    refine C_X12_listed (d := 42) (M := 281) G.2.1 J1.1 K.1 ?_ ?_
    · intro b1 h2 pM
      exact endX (v0 := 0) (by decide) K2 (qM I1 J1 K pM)
    · intro j2 k2 b1 b2 b3 b4 h2 pM
      first | (exfalso; omega) | (exfalso; simp_all; done)
  · intro j k a1 a2 a3 a4
    refine WrJ.v (KK _ _ (fun P2 K2 => ?_))
    have I1 := (I).out (v := (w (20 + (12 * j + k))))
    have J1 := (J).out (v := (w (20 + (12 * j + k))))
    refine C_X12_listed (d := 42) (M := 281) G.2.1 J1.1 K.1 ?_ ?_
    · intro b1 h2 pM
      first | (exfalso; omega) | (exfalso; simp_all; done)
    · intro j2 k2 b1 b2 b3 b4 h2 pM
      obtain rfl : j2 = j := by omega
      obtain rfl : k2 = k := by omega
      exact endV K2 (qM I1 J1 K pM)
theorem AG_smell {g : Gs} {h : Hc} {PX : Po} {w : Nat → Int} {A : Nat → Nat → Int} {n L : Nat} {b : Nat → Int} {im : Int} {wi : Nat → Int} {f : Int} (G : G9 g) (I : CLi h w A n L b im wi f) (J : MDi h w A n L b im wi f) (K : BTi w A n L b im wi) {x : Int} (KK : ∀ h1 c, AgJ g h1 mX12_smell [vR 281, vI x] c → PX (.inl (some (vI c))) g h1) : Call 43 1 6 mX11_smell [vR 0, vI x] g h (WrJ [(xIO, 1)] 300 g PX) := by
  refine C_X11_smell (d := 42) (X := 0) G.1 I.1 K.1 I.2.1 K.2.1 ?_ ?_
  · intro a1
    refine WrJ.x (c := 1) List.mem_cons_self (KK _ _ (fun P2 K2 => ?_))
    have I1 := I
    have J1 := J
    refine C_X12_smell (d := 42) (M := 281) G.2.1 J1.1 K.1 ?_ ?_
    · intro b1 h2 pM
      exact endX (v0 := 0) (by decide) K2 (qM I1 J1 K pM)
    · intro k2 b1 b2 h2 pM
      first | (exfalso; omega) | (exfalso; simp_all; done)
  · intro k a1 a2
    refine WrJ.v (KK _ _ (fun P2 K2 => ?_))
    have I1 := (I).out (v := (w (8 + k)))
    have J1 := (J).out (v := (w (8 + k)))
    refine C_X12_smell (d := 42) (M := 281) G.2.1 J1.1 K.1 ?_ ?_
    · intro b1 h2 pM
      first | (exfalso; omega) | (exfalso; simp_all; done)
    · intro k2 b1 b2 h2 pM
      obtain rfl : k2 = k := by omega
      exact endV K2 (qM I1 J1 K pM)
theorem AG_point {g : Gs} {h : Hc} {PX : Po} {w : Nat → Int} {A : Nat → Nat → Int} {n L : Nat} {b : Nat → Int} {im : Int} {wi : Nat → Int} {f : Int} (G : G9 g) (I : CLi h w A n L b im wi f) (J : MDi h w A n L b im wi f) (K : BTi w A n L b im wi) {x y z : Int} (KK : ∀ h1 c, AgJ g h1 mX12_point [vR 281, vI x, vI y, vI z] c → PX (.inl (some (vI c))) g h1) : Call 43 3 18 mX11_point [vR 0, vI x, vI y, vI z] g h (WrJ [(xIO, 1)] 300 g PX) := by
  refine C_X11_point (d := 39) (X := 0) G.1 I.1 K.1 I.2.1 K.2.1 ?_ ?_
  · intro a1
    refine WrJ.x (c := 1) List.mem_cons_self (KK _ _ (fun P2 K2 => ?_))
    have I1 := I
    have J1 := J
    refine C_X12_point (d := 36) (M := 281) G.2.1 J1.1 K.1 K.2.1 ?_ ?_
    · intro b1 h2 pM
      exact endX (v0 := 0) (by decide) K2 (qM I1 J1 K pM)
    · intro j2 c2 k2 b1 b2 b3 b4 b5 b6 h2 pM
      first | (exfalso; omega) | (exfalso; simp_all; done)
  · intro j c k a1 a2 a3 a4 a5 a6 h1 oX
    refine WrJ.v (KK _ _ (fun P2 K2 => ?_))
    have I1 := ((I.xs oX)).out (v := (pt0 w j c (k : Int)))
    have J1 := ((J.xs oX)).out (v := (pt0 w j c (k : Int)))
    refine C_X12_point (d := 36) (M := 281) G.2.1 J1.1 K.1 K.2.1 ?_ ?_
    · intro b1 h2 pM
      first | (exfalso; omega) | (exfalso; simp_all; done)
    · intro j2 c2 k2 b1 b2 b3 b4 b5 b6 h2 pM
      obtain rfl : j2 = j := by omega
      obtain rfl : c2 = c := by omega
      obtain rfl : k2 = k := by omega
      exact endV K2 (qM I1 J1 K pM)
theorem AG_would {g : Gs} {h : Hc} {PX : Po} {w : Nat → Int} {A : Nat → Nat → Int} {n L : Nat} {b : Nat → Int} {im : Int} {wi : Nat → Int} {f : Int} (G : G9 g) (I : CLi h w A n L b im wi f) (J : MDi h w A n L b im wi f) (K : BTi w A n L b im wi) {x y z : Int} (KK : ∀ h1 c, AgJ g h1 mX12_would [vR 281, vI x, vI y, vI z] c → PX (.inl (some (vI c))) g h1) : Call 43 3 18 mX11_would [vR 0, vI x, vI y, vI z] g h (WrJ [(xIO, 1)] 300 g PX) := by
  refine C_X11_would (d := 39) (X := 0) G.1 I.1 K.1 I.2.1 K.2.1 ?_ ?_
  · intro a1
    refine WrJ.x (c := 1) List.mem_cons_self (KK _ _ (fun P2 K2 => ?_))
    have I1 := I
    have J1 := J
    refine C_X12_would (d := 36) (M := 281) G.2.1 J1.1 K.1 K.2.1 ?_ ?_
    · intro b1 h2 pM
      exact endX (v0 := 0) (by decide) K2 (qM I1 J1 K pM)
    · intro j2 c2 k2 b1 b2 b3 b4 b5 b6 h2 pM
      first | (exfalso; omega) | (exfalso; simp_all; done)
  · intro j c k a1 a2 a3 a4 a5 a6 h1 oX
    refine WrJ.v (KK _ _ (fun P2 K2 => ?_))
    have I1 := ((I.xs oX)).out (v := (wdW w j c (k : Int)))
    have J1 := ((J.xs oX)).out (v := (wdW w j c (k : Int)))
    refine C_X12_would (d := 36) (M := 281) G.2.1 J1.1 K.1 K.2.1 ?_ ?_
    · intro b1 h2 pM
      first | (exfalso; omega) | (exfalso; simp_all; done)
    · intro j2 c2 k2 b1 b2 b3 b4 b5 b6 h2 pM
      obtain rfl : j2 = j := by omega
      obtain rfl : c2 = c := by omega
      obtain rfl : k2 = k := by omega
      exact endV K2 (qM I1 J1 K pM)
theorem AG_early {g : Gs} {h : Hc} {PX : Po} {w : Nat → Int} {A : Nat → Nat → Int} {n L : Nat} {b : Nat → Int} {im : Int} {wi : Nat → Int} {f : Int} (G : G9 g) (I : CLi h w A n L b im wi f) (J : MDi h w A n L b im wi f) (K : BTi w A n L b im wi) {x y : Int} (KK : ∀ h1 c, AgJ g h1 mX12_early [vR 281, vI x, vI y] c → PX (.inl (some (vI c))) g h1) : Call 43 2 12 mX11_early [vR 0, vI x, vI y] g h (WrJ [(xIO, 1)] 300 g PX) := by
  refine C_X11_early (d := 38) (X := 0) G.1 I.1 K.1 I.2.1 K.2.1 ?_ ?_
  · intro a1
    refine WrJ.x (c := 1) List.mem_cons_self (KK _ _ (fun P2 K2 => ?_))
    have I1 := I
    have J1 := J
    refine C_X12_early (d := 35) (M := 281) G.2.1 J1.1 K.1 K.2.1 ?_ ?_
    · intro b1 h2 pM
      exact endX (v0 := 0) (by decide) K2 (qM I1 J1 K pM)
    · intro j2 c2 b1 b2 b3 b4 h2 pM
      first | (exfalso; omega) | (exfalso; simp_all; done)
  · intro j c a1 a2 a3 a4 h1 oX
    refine WrJ.v (KK _ _ (fun P2 K2 => ?_))
    have I1 := ((I.xs oX)).out (v := (ff (wdP w j c) (w 4).toNat 12))
    have J1 := ((J.xs oX)).out (v := (ff (wdP w j c) (w 4).toNat 12))
    refine C_X12_early (d := 35) (M := 281) G.2.1 J1.1 K.1 K.2.1 ?_ ?_
    · intro b1 h2 pM
      first | (exfalso; omega) | (exfalso; simp_all; done)
    · intro j2 c2 b1 b2 b3 b4 h2 pM
      obtain rfl : j2 = j := by omega
      obtain rfl : c2 = c := by omega
      exact endV K2 (qM I1 J1 K pM)
theorem AG_split {g : Gs} {h : Hc} {PX : Po} {w : Nat → Int} {A : Nat → Nat → Int} {n L : Nat} {b : Nat → Int} {im : Int} {wi : Nat → Int} {f : Int} (G : G9 g) (I : CLi h w A n L b im wi f) (J : MDi h w A n L b im wi f) (K : BTi w A n L b im wi) {x : Int} (KK : ∀ h1 c, AgJ g h1 mX12_split [vR 281, vI x] c → PX (.inl (some (vI c))) g h1) : Call 43 1 6 mX11_split [vR 0, vI x] g h (WrJZ [(xIO, 1)] 300 g PX) := by
  refine C_X11_split (d := 38) (X := 0) G.1 I.1 K.1 I.2.1 K.2.1 ?_ ?_
  · intro a1
    refine WrJZ.x (c := 1) List.mem_cons_self (KK _ _ (fun P2 K2 => ?_))
    have I1 := I
    have J1 := J
    refine C_X12_split (d := 34) (M := 281) G.2.1 J1.1 K.1 K.2.1 ?_ ?_
    · intro b1 h2 pM
      exact endX (v0 := 0) (by decide) K2 (qM I1 J1 K pM)
    · intro c2 b1 b2 h2 pM
      first | (exfalso; omega) | (exfalso; simp_all; done)
  · intro c a1 a2 h1 oX
    refine WrJZ.v (KK _ _ (fun P2 K2 => ?_))
    have I1 := ((I.xs oX)).out (v := (bI (splB w c)))
    have J1 := ((J.xs oX)).out (v := (bI (splB w c)))
    refine C_X12_split (d := 34) (M := 281) G.2.1 J1.1 K.1 K.2.1 ?_ ?_
    · intro b1 h2 pM
      first | (exfalso; omega) | (exfalso; simp_all; done)
    · intro c2 b1 b2 h2 pM
      obtain rfl : c2 = c := by omega
      exact endV K2 (qM I1 J1 K pM)
theorem AG_crumbles {g : Gs} {h : Hc} {PX : Po} {w : Nat → Int} {A : Nat → Nat → Int} {n L : Nat} {b : Nat → Int} {im : Int} {wi : Nat → Int} {f : Int} (G : G9 g) (I : CLi h w A n L b im wi f) (J : MDi h w A n L b im wi f) (K : BTi w A n L b im wi) {x : Int} (KK : ∀ h1 c, AgJ g h1 mX12_crumbles [vR 281, vI x] c → PX (.inl (some (vI c))) g h1) : Call 43 1 6 mX11_crumbles [vR 0, vI x] g h (WrJ [(xIO, 1)] 300 g PX) := by
  refine C_X11_crumbles (d := 40) (X := 0) G.1 I.1 K.1 I.2.1 K.2.1 ?_ ?_
  · intro a1
    refine WrJ.x (c := 1) List.mem_cons_self (KK _ _ (fun P2 K2 => ?_))
    have I1 := I
    have J1 := J
    refine C_X12_crumbles (d := 40) (M := 281) G.2.1 J1.1 K.1 ?_ ?_
    · intro b1 h2 pM
      exact endX (v0 := 0) (by decide) K2 (qM I1 J1 K pM)
    · intro j2 b1 b2 h2 pM
      first | (exfalso; omega) | (exfalso; simp_all; done)
  · intro j a1 a2
    refine WrJ.v (KK _ _ (fun P2 K2 => ?_))
    have I1 := (I).out (v := (crum w (j : Int)))
    have J1 := (J).out (v := (crum w (j : Int)))
    refine C_X12_crumbles (d := 40) (M := 281) G.2.1 J1.1 K.1 ?_ ?_
    · intro b1 h2 pM
      first | (exfalso; omega) | (exfalso; simp_all; done)
    · intro j2 b1 b2 h2 pM
      obtain rfl : j2 = j := by omega
      exact endV K2 (qM I1 J1 K pM)
theorem AG_moved {g : Gs} {h : Hc} {PX : Po} {w : Nat → Int} {A : Nat → Nat → Int} {n L : Nat} {b : Nat → Int} {im : Int} {wi : Nat → Int} {f : Int} (G : G9 g) (I : CLi h w A n L b im wi f) (J : MDi h w A n L b im wi f) (K : BTi w A n L b im wi) {x y : Int} (KK : ∀ h1 c, AgJ g h1 mX12_moved [vR 281, vI x, vI y] c → PX (.inl (some (vI c))) g h1) : Call 43 2 12 mX11_moved [vR 0, vI x, vI y] g h (WrJ [(xIO, 1)] 300 g PX) := by
  refine C_X11_moved (d := 38) (X := 0) G.1 I.1 K.1 I.2.1 K.2.1 ?_ ?_
  · intro a1
    refine WrJ.x (c := 1) List.mem_cons_self (KK _ _ (fun P2 K2 => ?_))
    have I1 := I
    have J1 := J
    refine C_X12_moved (d := 35) (M := 281) G.2.1 J1.1 K.1 K.2.1 ?_ ?_
    · intro b1 h2 pM
      exact endX (v0 := 0) (by decide) K2 (qM I1 J1 K pM)
    · intro j2 c2 b1 b2 b3 b4 h2 pM
      first | (exfalso; omega) | (exfalso; simp_all; done)
  · intro j c a1 a2 a3 a4 h1 oX
    refine WrJ.v (KK _ _ (fun P2 K2 => ?_))
    have I1 := ((I.xs oX)).out (v := (ff (movP w j c) 0 100))
    have J1 := ((J.xs oX)).out (v := (ff (movP w j c) 0 100))
    refine C_X12_moved (d := 35) (M := 281) G.2.1 J1.1 K.1 K.2.1 ?_ ?_
    · intro b1 h2 pM
      first | (exfalso; omega) | (exfalso; simp_all; done)
    · intro j2 c2 b1 b2 b3 b4 h2 pM
      obtain rfl : j2 = j := by omega
      obtain rfl : c2 = c := by omega
      exact endV K2 (qM I1 J1 K pM)
theorem AG_even {g : Gs} {h : Hc} {PX : Po} {w : Nat → Int} {A : Nat → Nat → Int} {n L : Nat} {b : Nat → Int} {im : Int} {wi : Nat → Int} {f : Int} (G : G9 g) (I : CLi h w A n L b im wi f) (J : MDi h w A n L b im wi f) (K : BTi w A n L b im wi) {x y : Int} (KK : ∀ h1 c, AgJ g h1 mX12_even [vR 281, vI x, vI y] c → PX (.inl (some (vI c))) g h1) : Call 43 2 12 mX11_even [vR 0, vI x, vI y] g h (WrJ [(xIO, 1)] 300 g PX) := by
  refine C_X11_even (d := 38) (X := 0) G.1 I.1 K.1 I.2.1 K.2.1 ?_ ?_
  · intro a1
    refine WrJ.x (c := 1) List.mem_cons_self (KK _ _ (fun P2 K2 => ?_))
    have I1 := I
    have J1 := J
    refine C_X12_even (d := 35) (M := 281) G.2.1 J1.1 K.1 K.2.1 ?_ ?_
    · intro b1 h2 pM
      exact endX (v0 := 0) (by decide) K2 (qM I1 J1 K pM)
    · intro j2 c2 b1 b2 b3 b4 h2 pM
      first | (exfalso; omega) | (exfalso; simp_all; done)
  · intro j c a1 a2 a3 a4 h1 oX
    refine WrJ.v (KK _ _ (fun P2 K2 => ?_))
    have I1 := ((I.xs oX)).out (v := (ff (evnP w j c) 0 100))
    have J1 := ((J.xs oX)).out (v := (ff (evnP w j c) 0 100))
    refine C_X12_even (d := 35) (M := 281) G.2.1 J1.1 K.1 K.2.1 ?_ ?_
    · intro b1 h2 pM
      first | (exfalso; omega) | (exfalso; simp_all; done)
    · intro j2 c2 b1 b2 b3 b4 h2 pM
      obtain rfl : j2 = j := by omega
      obtain rfl : c2 = c := by omega
      exact endV K2 (qM I1 J1 K pM)
theorem AG_rather {g : Gs} {h : Hc} {PX : Po} {w : Nat → Int} {A : Nat → Nat → Int} {n L : Nat} {b : Nat → Int} {im : Int} {wi : Nat → Int} {f : Int} (G : G9 g) (I : CLi h w A n L b im wi f) (J : MDi h w A n L b im wi f) (K : BTi w A n L b im wi) {x y : Int} (KK : ∀ h1 c, AgJ g h1 mX12_rather [vR 281, vI x, vI y] c → PX (.inl (some (vI c))) g h1) : Call 43 2 12 mX11_rather [vR 0, vI x, vI y] g h (WrJ [(xIO, 1)] 300 g PX) := by
  refine C_X11_rather (d := 41) (X := 0) G.1 I.1 K.1 I.2.1 K.2.1 ?_ ?_
  · intro a1
    refine WrJ.x (c := 1) List.mem_cons_self (KK _ _ (fun P2 K2 => ?_))
    have I1 := I
    have J1 := J
    refine C_X12_rather (d := 40) (M := 281) G.2.1 J1.1 K.1 ?_ ?_
    · intro b1 h2 pM
      exact endX (v0 := 0) (by decide) K2 (qM I1 J1 K pM)
    · intro j2 z2 b1 b2 b3 b4 h2 pM
      first | (exfalso; omega) | (exfalso; simp_all; done)
  · intro j z a1 a2 a3 a4
    refine WrJ.v (KK _ _ (fun P2 K2 => ?_))
    have I1 := (I).out (v := (bset (ratP w j z) 5))
    have J1 := (J).out (v := (bset (ratP w j z) 5))
    refine C_X12_rather (d := 40) (M := 281) G.2.1 J1.1 K.1 ?_ ?_
    · intro b1 h2 pM
      first | (exfalso; omega) | (exfalso; simp_all; done)
    · intro j2 z2 b1 b2 b3 b4 h2 pM
      obtain rfl : j2 = j := by omega
      obtain rfl : z2 = z := by omega
      exact endV K2 (qM I1 J1 K pM)
theorem AG_rests {g : Gs} {h : Hc} {PX : Po} {w : Nat → Int} {A : Nat → Nat → Int} {n L : Nat} {b : Nat → Int} {im : Int} {wi : Nat → Int} {f : Int} (G : G9 g) (I : CLi h w A n L b im wi f) (J : MDi h w A n L b im wi f) (K : BTi w A n L b im wi) {x : Int} (KK : ∀ h1 c, AgJ g h1 mX12_rests [vR 281, vI x] c → PX (.inl (some (vI c))) g h1) : Call 43 1 6 mX11_rests [vR 0, vI x] g h (WrJ [(xIO, 1)] 300 g PX) := by
  refine C_X11_rests (d := 41) (X := 0) G.1 I.1 K.1 I.2.1 K.2.1 ?_ ?_
  · intro a1
    refine WrJ.x (c := 1) List.mem_cons_self (KK _ _ (fun P2 K2 => ?_))
    have I1 := I
    have J1 := J
    refine C_X12_rests (d := 40) (M := 281) G.2.1 J1.1 K.1 ?_ ?_
    · intro b1 h2 pM
      exact endX (v0 := 0) (by decide) K2 (qM I1 J1 K pM)
    · intro j2 b1 b2 h2 pM
      first | (exfalso; omega) | (exfalso; simp_all; done)
  · intro j a1 a2
    refine WrJ.v (KK _ _ (fun P2 K2 => ?_))
    have I1 := (I).out (v := (bset (resP w j) 4))
    have J1 := (J).out (v := (bset (resP w j) 4))
    refine C_X12_rests (d := 40) (M := 281) G.2.1 J1.1 K.1 ?_ ?_
    · intro b1 h2 pM
      first | (exfalso; omega) | (exfalso; simp_all; done)
    · intro j2 b1 b2 h2 pM
      obtain rfl : j2 = j := by omega
      exact endV K2 (qM I1 J1 K pM)
theorem AG_odds {g : Gs} {h : Hc} {PX : Po} {w : Nat → Int} {A : Nat → Nat → Int} {n L : Nat} {b : Nat → Int} {im : Int} {wi : Nat → Int} {f : Int} (G : G9 g) (I : CLi h w A n L b im wi f) (J : MDi h w A n L b im wi f) (K : BTi w A n L b im wi) {x y : Int} (KK : ∀ h1 c, AgJ g h1 mX12_odds [vR 281, vI x, vI y] c → PX (.inl (some (vI c))) g h1) : Call 43 2 12 mX11_odds [vR 0, vI x, vI y] g h (WrJ [(xIO, 1), (xIA, 2)] 300 g PX) := by
  refine C_X11_odds (d := 42) (X := 0) G.1 I.1 K.1 I.2.1 K.2.1 ?_ ?_ ?_
  · intro a1
    refine WrJ.x (c := 1) List.mem_cons_self (KK _ _ (fun P2 K2 => ?_))
    have I1 := I
    have J1 := J
    refine C_X12_odds (d := 41) (M := 281) G.2.1 J1.1 K.1 ?_ ?_ ?_
    · intro b1 h2 pM
      exact endX (v0 := 0) (by decide) K2 (qM I1 J1 K pM)
    · intro b1 b2 h2 pM
      first | (exfalso; omega) | (exfalso; simp_all; done)
    · intro j2 n2 b1 b2 b3 b4 h2 pM
      first | (exfalso; omega) | (exfalso; simp_all; done)
  · intro a1 a2
    refine WrJ.x (c := 2) (List.mem_cons_of_mem _ List.mem_cons_self) (KK _ _ (fun P2 K2 => ?_))
    have I1 := I
    have J1 := J
    refine C_X12_odds (d := 41) (M := 281) G.2.1 J1.1 K.1 ?_ ?_ ?_
    · intro b1 h2 pM
      first | (exfalso; omega) | (exfalso; simp_all; done)
    · intro b1 b2 h2 pM
      exact endX (v0 := 0) (by decide) K2 (qM I1 J1 K pM)
    · intro j2 n2 b1 b2 b3 b4 h2 pM
      first | (exfalso; omega) | (exfalso; simp_all; done)
  · intro j n a1 a2 a3 a4
    refine WrJ.v (KK _ _ (fun P2 K2 => ?_))
    have I1 := (I).out (v := (oddF w j n))
    have J1 := (J).out (v := (oddF w j n))
    refine C_X12_odds (d := 41) (M := 281) G.2.1 J1.1 K.1 ?_ ?_ ?_
    · intro b1 h2 pM
      first | (exfalso; omega) | (exfalso; simp_all; done)
    · intro b1 b2 h2 pM
      first | (exfalso; omega) | (exfalso; simp_all; done)
    · intro j2 n2 b1 b2 b3 b4 h2 pM
      obtain rfl : j2 = j := by omega
      obtain rfl : n2 = n := by omega
      exact endV K2 (qM I1 J1 K pM)
theorem AG_kind {g : Gs} {h : Hc} {PX : Po} {w : Nat → Int} {A : Nat → Nat → Int} {n L : Nat} {b : Nat → Int} {im : Int} {wi : Nat → Int} {f : Int} (G : G9 g) (I : CLi h w A n L b im wi f) (J : MDi h w A n L b im wi f) (K : BTi w A n L b im wi) {x : Int} (KK : ∀ h1 c, AgJ g h1 mX12_kind [vR 281, vI x] c → PX (.inl (some (vI c))) g h1) : Call 43 1 6 mX11_kind [vR 0, vI x] g h (WrJ [(xIO, 1)] 300 g PX) := by
  refine C_X11_kind (d := 43) (X := 0) G.1 I.1 K.1 I.2.1 K.2.1 ?_ ?_
  · intro a1
    refine WrJ.x (c := 1) List.mem_cons_self (KK _ _ (fun P2 K2 => ?_))
    have I1 := I
    have J1 := J
    refine C_X12_kind (d := 42) (M := 281) G.2.1 J1.1 K.1 ?_ ?_
    · intro b1 h2 pM
      exact endX (v0 := 0) (by decide) K2 (qM I1 J1 K pM)
    · intro b1 h2 pM
      first | (exfalso; omega) | (exfalso; simp_all; done)
  · intro a1
    refine WrJ.v (KK _ _ (fun P2 K2 => ?_))
    have I1 := (I).out (v := (bset (kinP w x) (w 1).toNat))
    have J1 := (J).out (v := (bset (kinP w x) (w 1).toNat))
    refine C_X12_kind (d := 42) (M := 281) G.2.1 J1.1 K.1 ?_ ?_
    · intro b1 h2 pM
      first | (exfalso; omega) | (exfalso; simp_all; done)
    · intro b1 h2 pM
      exact endV K2 (qM I1 J1 K pM)
theorem AG_state {g : Gs} {h : Hc} {PX : Po} {w : Nat → Int} {A : Nat → Nat → Int} {n L : Nat} {b : Nat → Int} {im : Int} {wi : Nat → Int} {f : Int} (G : G9 g) (I : CLi h w A n L b im wi f) (J : MDi h w A n L b im wi f) (K : BTi w A n L b im wi) {x : Int} (KK : ∀ h1 c, AgJ g h1 mX12_state [vR 281, vI x] c → PX (.inl (some (vI c))) g h1) : Call 43 1 6 mX11_state [vR 0, vI x] g h (WrJ [(xIA, 1)] 300 g PX) := by
  refine C_X11_state (d := 42) (X := 0) G.1 I.1 K.1 I.2.1 K.2.1 ?_ ?_
  · intro a1
    refine WrJ.x (c := 1) List.mem_cons_self (KK _ _ (fun P2 K2 => ?_))
    have I1 := I
    have J1 := J
    refine C_X12_state (d := 41) (M := 281) G.2.1 J1.1 K.1 ?_ ?_
    · intro b1 h2 pM
      exact endX (v0 := 0) (by decide) K2 (qM I1 J1 K pM)
    · intro b1 h2 pM
      first | (exfalso; omega) | (exfalso; simp_all; done)
  · intro a1
    refine WrJ.v (KK _ _ (fun P2 K2 => ?_))
    have I1 := (I).out (v := (inSt w x))
    have J1 := (J).out (v := (inSt w x))
    refine C_X12_state (d := 41) (M := 281) G.2.1 J1.1 K.1 ?_ ?_
    · intro b1 h2 pM
      first | (exfalso; omega) | (exfalso; simp_all; done)
    · intro b1 h2 pM
      exact endV K2 (qM I1 J1 K pM)
theorem AG_led {g : Gs} {h : Hc} {PX : Po} {w : Nat → Int} {A : Nat → Nat → Int} {n L : Nat} {b : Nat → Int} {im : Int} {wi : Nat → Int} {f : Int} (G : G9 g) (I : CLi h w A n L b im wi f) (J : MDi h w A n L b im wi f) (K : BTi w A n L b im wi) {x : Int} {b9 : Bool} (KK : ∀ h1 c, AgJ g h1 mX12_led [vR 281, vI x, vI (bI b9)] c → PX (.inl (some (vI c))) g h1) : Call 43 1 6 mX11_led [vR 0, vI x, vI (bI b9)] g h (WrJ [(xIO, 1)] 300 g PX) := by
  refine C_X11_led (d := 41) (X := 0) G.1 I.1 K.1 I.2.1 K.2.1 ?_ ?_
  · intro a1
    refine WrJ.x (c := 1) List.mem_cons_self (KK _ _ (fun P2 K2 => ?_))
    have I1 := I
    have J1 := J
    refine C_X12_led (d := 41) (M := 281) G.2.1 J1.1 K.1 ?_ ?_
    · intro b1 h2 pM
      exact endX (v0 := 0) (by decide) K2 (qM I1 J1 K pM)
    · intro c2 b1 b2 h2 pM
      first | (exfalso; omega) | (exfalso; simp_all; done)
  · intro c a1 a2
    refine WrJ.v (KK _ _ (fun P2 K2 => ?_))
    have I1 := (I).out (v := (if b9 then latD w (c : Int) else ((cntB (ledP w (c : Int)) (w 6).toNat : Nat) : Int)))
    have J1 := (J).out (v := (if b9 then latD w (c : Int) else ((cntB (ledP w (c : Int)) (w 6).toNat : Nat) : Int)))
    refine C_X12_led (d := 41) (M := 281) G.2.1 J1.1 K.1 ?_ ?_
    · intro b1 h2 pM
      first | (exfalso; omega) | (exfalso; simp_all; done)
    · intro c2 b1 b2 h2 pM
      obtain rfl : c2 = c := by omega
      exact endV K2 (qM I1 J1 K pM)
theorem AG_log {g : Gs} {h : Hc} {PX : Po} {w : Nat → Int} {A : Nat → Nat → Int} {n L : Nat} {b : Nat → Int} {im : Int} {wi : Nat → Int} {f : Int} (G : G9 g) (I : CLi h w A n L b im wi f) (J : MDi h w A n L b im wi f) (K : BTi w A n L b im wi) {x y : Int} (KK : ∀ h1 c, AgJ g h1 mX12_log [vR 281, vI x, vI y] c → PX (.inl (some (vI c))) g h1) : Call 43 1 6 mX11_log [vR 0, vI x, vI y] g h (WrJ [(xNE, 1)] 300 g PX) := by
  refine C_X11_log (d := 42) (X := 0) G.1 I.1 K.1 I.2.1 K.2.1 ?_ ?_
  · intro a1
    refine WrJ.x (c := 1) List.mem_cons_self (KK _ _ (fun P2 K2 => ?_))
    have I1 := I
    have J1 := J
    refine C_X12_log (d := 42) (M := 281) G.2.1 J1.1 K.1 ?_ ?_
    · intro b1 h2 pM
      exact endX (v0 := 0) (by decide) K2 (qM I1 J1 K pM)
    · intro k2 b1 b2 h2 pM
      first | (exfalso; omega) | (exfalso; simp_all; done)
  · intro k a1 a2
    refine WrJ.v (KK _ _ (fun P2 K2 => ?_))
    have I1 := (I).out (v := (lookW w x k))
    have J1 := (J).out (v := (lookW w x k))
    refine C_X12_log (d := 42) (M := 281) G.2.1 J1.1 K.1 ?_ ?_
    · intro b1 h2 pM
      first | (exfalso; omega) | (exfalso; simp_all; done)
    · intro k2 b1 b2 h2 pM
      obtain rfl : k2 = k := by omega
      exact endV K2 (qM I1 J1 K pM)
theorem AG_ahead {g : Gs} {h : Hc} {PX : Po} {w : Nat → Int} {A : Nat → Nat → Int} {n L : Nat} {b : Nat → Int} {im : Int} {wi : Nat → Int} {f : Int} (G : G9 g) (I : CLi h w A n L b im wi f) (J : MDi h w A n L b im wi f) (K : BTi w A n L b im wi) {x y : Int} (KK : ∀ h1 c, AgJ g h1 mX12_ahead [vR 281, vI x, vI y] c → PX (.inl (some (vI c))) g h1) : Call 43 2 12 mX11_ahead [vR 0, vI x, vI y] g h (WrJ [(xIO, 1), (xIA, 2)] 300 g PX) := by
  refine C_X11_ahead (d := 37) (X := 0) G.1 I.1 K.1 I.2.1 K.2.1 ?_ ?_ ?_
  · intro a1
    refine WrJ.x (c := 1) List.mem_cons_self (KK _ _ (fun P2 K2 => ?_))
    have I1 := I
    have J1 := J
    refine C_X12_ahead (d := 32) (M := 281) G.2.1 J1.1 K.1 K.2.1 ?_ ?_ ?_
    · intro b1 h2 pM
      exact endX (v0 := 0) (by decide) K2 (qM I1 J1 K pM)
    · intro b1 b2 h2 pM
      first | (exfalso; omega) | (exfalso; simp_all; done)
    · intro c2 n2 b1 b2 b3 b4 h2 pM b6
      first | (exfalso; omega) | (exfalso; simp_all; done)
  · intro a1 a2
    refine WrJ.x (c := 2) (List.mem_cons_of_mem _ List.mem_cons_self) (KK _ _ (fun P2 K2 => ?_))
    have I1 := I
    have J1 := J
    refine C_X12_ahead (d := 32) (M := 281) G.2.1 J1.1 K.1 K.2.1 ?_ ?_ ?_
    · intro b1 h2 pM
      first | (exfalso; omega) | (exfalso; simp_all; done)
    · intro b1 b2 h2 pM
      exact endX (v0 := 0) (by decide) K2 (qM I1 J1 K pM)
    · intro c2 n2 b1 b2 b3 b4 h2 pM b6
      first | (exfalso; omega) | (exfalso; simp_all; done)
  · intro c n a1 a2 a3 a4 h1 oX
    refine WrJ.v (KK _ _ (fun P2 K2 => ?_))
    have I1 := ((I.dr oX)).out (v := ((goF w false n).1 (104 + 7 * c)))
    have J1 := ((J.dr oX)).out (v := ((goF w false n).1 (104 + 7 * c)))
    refine C_X12_ahead (d := 32) (M := 281) G.2.1 J1.1 K.1 K.2.1 ?_ ?_ ?_
    · intro b1 h2 pM
      first | (exfalso; omega) | (exfalso; simp_all; done)
    · intro b1 b2 h2 pM
      first | (exfalso; omega) | (exfalso; simp_all; done)
    · intro c2 n2 b1 b2 b3 b4 h2 pM b6
      obtain rfl : c2 = c := by omega
      obtain rfl : n2 = n := by omega
      exact endV K2 (qT I1 J1 K pM b6)
theorem AG_trial {g : Gs} {h : Hc} {PX : Po} {w : Nat → Int} {A : Nat → Nat → Int} {n L : Nat} {b : Nat → Int} {im : Int} {wi : Nat → Int} {f : Int} (G : G9 g) (I : CLi h w A n L b im wi f) (J : MDi h w A n L b im wi f) (K : BTi w A n L b im wi) {x : Int} {b9 : Bool} (KK : ∀ h1 c, AgJ g h1 mX12_trial [vR 281, vI x, vI (bI b9)] c → PX (.inl (some (vI c))) g h1) : Call 43 1 6 mX11_trial [vR 0, vI x, vI (bI b9)] g h (WrJ [(xIA, 1)] 300 g PX) := by
  refine C_X11_trial (d := 36) (X := 0) G.1 I.1 K.1 I.2.1 K.2.1 ?_ ?_
  · intro a1
    refine WrJ.x (c := 1) List.mem_cons_self (KK _ _ (fun P2 K2 => ?_))
    have I1 := I
    have J1 := J
    refine C_X12_trial (d := 32) (M := 281) G.2.1 J1.1 K.1 K.2.1 ?_ ?_
    · intro b1 h2 pM
      exact endX (v0 := 0) (by decide) K2 (qM I1 J1 K pM)
    · intro n2 b1 b2 h2 pM b4
      first | (exfalso; omega) | (exfalso; simp_all; done)
  · intro n a1 a2 h1 oX
    refine WrJ.v (KK _ _ (fun P2 K2 => ?_))
    have I1 := ((I.dr oX)).out (v := (inSt (goF w true n).1 (if b9 then 3 else 1)))
    have J1 := ((J.dr oX)).out (v := (inSt (goF w true n).1 (if b9 then 3 else 1)))
    refine C_X12_trial (d := 32) (M := 281) G.2.1 J1.1 K.1 K.2.1 ?_ ?_
    · intro b1 h2 pM
      first | (exfalso; omega) | (exfalso; simp_all; done)
    · intro n2 b1 b2 h2 pM b4
      obtain rfl : n2 = n := by omega
      exact endV K2 (qT I1 J1 K pM b4)
theorem AG_span {g : Gs} {h : Hc} {PX : Po} {w : Nat → Int} {A : Nat → Nat → Int} {n L : Nat} {b : Nat → Int} {im : Int} {wi : Nat → Int} {f : Int} (G : G9 g) (I : CLi h w A n L b im wi f) (J : MDi h w A n L b im wi f) (K : BTi w A n L b im wi) {x : Int} {b9 : Bool} (KK : ∀ h1 c, AgJ g h1 mX12_span [vR 281, vI x, vI (bI b9)] c → PX (.inl (some (vI c))) g h1) : Call 43 1 6 mX11_span [vR 0, vI x, vI (bI b9)] g h (WrJ [(xIA, 1)] 300 g PX) := by
  refine C_X11_span (d := 36) (X := 0) G.1 I.1 K.1 I.2.1 K.2.1 ?_ ?_
  · intro a1
    refine WrJ.x (c := 1) List.mem_cons_self (KK _ _ (fun P2 K2 => ?_))
    have I1 := I
    have J1 := J
    refine C_X12_span (d := 32) (M := 281) G.2.1 J1.1 K.1 K.2.1 ?_ ?_
    · intro b1 h2 pM
      exact endX (v0 := 0) (by decide) K2 (qM I1 J1 K pM)
    · intro n2 b1 b2 h2 pM b4
      first | (exfalso; omega) | (exfalso; simp_all; done)
  · intro n a1 a2 h1 oX
    refine WrJ.v (KK _ _ (fun P2 K2 => ?_))
    have I1 := ((I.dr oX)).out (v := (if b9 then spG w n 6 else spL w n 6))
    have J1 := ((J.dr oX)).out (v := (if b9 then spG w n 6 else spL w n 6))
    refine C_X12_span (d := 32) (M := 281) G.2.1 J1.1 K.1 K.2.1 ?_ ?_
    · intro b1 h2 pM
      first | (exfalso; omega) | (exfalso; simp_all; done)
    · intro n2 b1 b2 h2 pM b4
      obtain rfl : n2 = n := by omega
      exact endV K2 (qT I1 J1 K pM b4)
theorem AG_saved {g : Gs} {h : Hc} {PX : Po} {w : Nat → Int} {A : Nat → Nat → Int} {n L : Nat} {b : Nat → Int} {im : Int} {wi : Nat → Int} {f : Int} (G : G9 g) (I : CLi h w A n L b im wi f) (J : MDi h w A n L b im wi f) (K : BTi w A n L b im wi) {b9 : Bool} (KK : ∀ h1 v, AgV g h1 mX12_saved [vR 281, vI (bI b9)] v → PX (.inl (some (vI v))) g h1) : Call 44 0 0 mX11_saved [vR 0, vI (bI b9)] g h PX := by
  refine C_X11_saved (d := 39) (X := 0) G.1 I.1 K.1 I.2.1 K.2.1 ?_
  intro h1 oX
  refine KK _ _ (fun P2 K2 => ?_)
  have I1 := (I.xs oX)
  have J1 := (J.xs oX)
  refine C_X12_saved (d := 34) (M := 281) G.2.1 J1.1 K.1 K.2.1 ?_
  intro h2 pM
  exact K2 h2 (qM I1 J1 K pM).1
theorem AG_needed {g : Gs} {h : Hc} {PX : Po} {w : Nat → Int} {A : Nat → Nat → Int} {n L : Nat} {b : Nat → Int} {im : Int} {wi : Nat → Int} {f : Int} (G : G9 g) (I : CLi h w A n L b im wi f) (J : MDi h w A n L b im wi f) (K : BTi w A n L b im wi) (KK : ∀ h1 v, AgV g h1 mX12_needed [vR 281] v → PX (.inl (some (vI v))) g h1) : Call 44 0 0 mX11_needed [vR 0] g h PX := by
  refine C_X11_needed (d := 39) (X := 0) G.1 I.1 K.1 I.2.1 K.2.1 ?_
  intro h1 oX
  refine KK _ _ (fun P2 K2 => ?_)
  have I1 := (I.xs oX)
  have J1 := (J.xs oX)
  refine C_X12_needed (d := 34) (M := 281) G.2.1 J1.1 K.1 K.2.1 ?_
  intro h2 pM
  exact K2 h2 (qM I1 J1 K pM).1
theorem AG_worst {g : Gs} {h : Hc} {PX : Po} {w : Nat → Int} {A : Nat → Nat → Int} {n L : Nat} {b : Nat → Int} {im : Int} {wi : Nat → Int} {f : Int} (G : G9 g) (I : CLi h w A n L b im wi f) (J : MDi h w A n L b im wi f) (K : BTi w A n L b im wi) (KK : ∀ h1 v, AgV g h1 mX12_worst [vR 281] v → PX (.inl (some (vI v))) g h1) : Call 44 0 0 mX11_worst [vR 0] g h PX := by
  refine C_X11_worst (d := 42) (X := 0) G.1 I.1 K.1 I.2.1 K.2.1 ?_
  refine KK _ _ (fun P2 K2 => ?_)
  have I1 := I
  have J1 := J
  refine C_X12_worst (d := 40) (M := 281) G.2.1 J1.1 K.1 ?_
  intro h2 pM
  exact K2 h2 (qM I1 J1 K pM).1
theorem AG_deep {g : Gs} {h : Hc} {PX : Po} {w : Nat → Int} {A : Nat → Nat → Int} {n L : Nat} {b : Nat → Int} {im : Int} {wi : Nat → Int} {f : Int} (G : G9 g) (I : CLi h w A n L b im wi f) (J : MDi h w A n L b im wi f) (K : BTi w A n L b im wi) (KK : ∀ h1 v, AgV g h1 mX12_deep [vR 281] v → PX (.inl (some (vI v))) g h1) : Call 44 0 0 mX11_deep [vR 0] g h PX := by
  refine C_X11_deep (d := 43) (X := 0) G.1 I.1 K.1 I.2.1 K.2.1 ?_
  refine KK _ _ (fun P2 K2 => ?_)
  have I1 := I
  have J1 := J
  refine C_X12_deep (d := 42) (M := 281) G.2.1 J1.1 K.1 ?_
  intro h2 pM
  exact K2 h2 (qM I1 J1 K pM).1
theorem AG_roots {g : Gs} {h : Hc} {PX : Po} {w : Nat → Int} {A : Nat → Nat → Int} {n L : Nat} {b : Nat → Int} {im : Int} {wi : Nat → Int} {f : Int} (G : G9 g) (I : CLi h w A n L b im wi f) (J : MDi h w A n L b im wi f) (K : BTi w A n L b im wi) (KK : ∀ h1 v, AgV g h1 mX12_roots [vR 281] v → PX (.inl (some (vI v))) g h1) : Call 44 0 0 mX11_roots [vR 0] g h PX := by
  refine C_X11_roots (d := 43) (X := 0) G.1 I.1 K.1 I.2.1 K.2.1 ?_
  refine KK _ _ (fun P2 K2 => ?_)
  have I1 := I
  have J1 := J
  refine C_X12_roots (d := 41) (M := 281) G.2.1 J1.1 K.1 ?_
  intro h2 pM
  exact K2 h2 (qM I1 J1 K pM).1
theorem AG_worth {g : Gs} {h : Hc} {PX : Po} {w : Nat → Int} {A : Nat → Nat → Int} {n L : Nat} {b : Nat → Int} {im : Int} {wi : Nat → Int} {f : Int} (G : G9 g) (I : CLi h w A n L b im wi f) (J : MDi h w A n L b im wi f) (K : BTi w A n L b im wi) (KK : ∀ h1 v, AgV g h1 mX12_worth [vR 281] v → PX (.inl (some (vI v))) g h1) : Call 44 0 0 mX11_worth [vR 0] g h PX := by
  refine C_X11_worth (d := 38) (X := 0) G.1 I.1 K.1 I.2.1 K.2.1 ?_
  intro h1 oX
  refine KK _ _ (fun P2 K2 => ?_)
  have I1 := (I.xs oX)
  have J1 := (J.xs oX)
  refine C_X12_worth (d := 34) (M := 281) G.2.1 J1.1 K.1 K.2.1 ?_
  intro h2 pM
  exact K2 h2 (qM I1 J1 K pM).1
theorem AG_agree {g : Gs} {h : Hc} {PX : Po} {w : Nat → Int} {A : Nat → Nat → Int} {n L : Nat} {b : Nat → Int} {im : Int} {wi : Nat → Int} {f : Int} (G : G9 g) (I : CLi h w A n L b im wi f) (J : MDi h w A n L b im wi f) (K : BTi w A n L b im wi) (KK : ∀ h1 v, AgV g h1 mX12_agree [vR 281] v → PX (.inl (some (vI v))) g h1) : Call 44 0 0 mX11_agree [vR 0] g h PX := by
  refine C_X11_agree (d := 39) (X := 0) G.1 I.1 K.1 I.2.1 K.2.1 ?_
  intro h1 oX
  refine KK _ _ (fun P2 K2 => ?_)
  have I1 := (I.xs oX)
  have J1 := (J.xs oX)
  refine C_X12_agree (d := 34) (M := 281) G.2.1 J1.1 K.1 K.2.1 ?_
  intro h2 pM
  exact K2 h2 (qM I1 J1 K pM).1
theorem AG_hungriest {g : Gs} {h : Hc} {PX : Po} {w : Nat → Int} {A : Nat → Nat → Int} {n L : Nat} {b : Nat → Int} {im : Int} {wi : Nat → Int} {f : Int} (G : G9 g) (I : CLi h w A n L b im wi f) (J : MDi h w A n L b im wi f) (K : BTi w A n L b im wi) (KK : ∀ h1 v, AgV g h1 mX12_hungriest [vR 281] v → PX (.inl (some (vI v))) g h1) : Call 44 0 0 mX11_hungriest [vR 0] g h PX := by
  refine C_X11_hungriest (d := 44) (X := 0) G.1 I.1 K.1 I.2.1 K.2.1 ?_
  refine KK _ _ (fun P2 K2 => ?_)
  have I1 := I
  have J1 := J
  refine C_X12_hungriest (d := 41) (M := 281) G.2.1 J1.1 K.1 ?_
  intro h2 pM
  exact K2 h2 (qM I1 J1 K pM).1
theorem AG_gravest {g : Gs} {h : Hc} {PX : Po} {w : Nat → Int} {A : Nat → Nat → Int} {n L : Nat} {b : Nat → Int} {im : Int} {wi : Nat → Int} {f : Int} (G : G9 g) (I : CLi h w A n L b im wi f) (J : MDi h w A n L b im wi f) (K : BTi w A n L b im wi) (KK : ∀ h1 v, AgV g h1 mX12_gravest [vR 281] v → PX (.inl (some (vI v))) g h1) : Call 44 0 0 mX11_gravest [vR 0] g h PX := by
  refine C_X11_gravest (d := 44) (X := 0) G.1 I.1 K.1 I.2.1 K.2.1 ?_
  refine KK _ _ (fun P2 K2 => ?_)
  have I1 := I
  have J1 := J
  refine C_X12_gravest (d := 41) (M := 281) G.2.1 J1.1 K.1 ?_
  intro h2 pM
  exact K2 h2 (qM I1 J1 K pM).1
theorem AG_twins {g : Gs} {h : Hc} {PX : Po} {w : Nat → Int} {A : Nat → Nat → Int} {n L : Nat} {b : Nat → Int} {im : Int} {wi : Nat → Int} {f : Int} (G : G9 g) (I : CLi h w A n L b im wi f) (J : MDi h w A n L b im wi f) (K : BTi w A n L b im wi) (KK : ∀ h1 v, AgV g h1 mX12_twins [vR 281] v → PX (.inl (some (vI v))) g h1) : Call 44 0 0 mX11_twins [vR 0] g h PX := by
  refine C_X11_twins (d := 44) (X := 0) G.1 I.1 K.1 I.2.1 K.2.1 ?_
  refine KK _ _ (fun P2 K2 => ?_)
  have I1 := I
  have J1 := J
  refine C_X12_twins (d := 42) (M := 281) G.2.1 J1.1 K.1 ?_
  intro h2 pM
  exact K2 h2 (qM I1 J1 K pM).1
theorem AG_judge_0 {g : Gs} {h : Hc} {PX : Po} {w : Nat → Int} {A : Nat → Nat → Int} {n L : Nat} {b : Nat → Int} {im : Int} {wi : Nat → Int} {f : Int} (G : G9 g) (I : CLi h w A n L b im wi f) (J : MDi h w A n L b im wi f) (K : BTi w A n L b im wi) {x : Int} (KK : ∀ h1 c, AgJ g h1 mX12_judge [vR 281, vI x, vI 0] c → PX (.inl (some (vI c))) g h1) : Call 43 2 12 mX11_judge [vR 0, vI x, vI 0] g h (WrJ [(xIO, 1), (xNE, 2)] 300 g PX) := by
  refine C_X11_judge_0 (d := 37) (X := 0) G.1 I.1 K.1 I.2.1 K.2.1 ?_ ?_
  · intro a1
    refine WrJ.x (c := 1) List.mem_cons_self (KK _ _ (fun P2 K2 => ?_))
    have I1 := I
    have J1 := J
    refine C_X12_judge_0 (d := 33) (M := 281) G.2.1 J1.1 K.1 K.2.1 ?_ ?_
    · intro b1 h2 pM
      exact endX (v0 := 0) (by decide) K2 (qM I1 J1 K pM)
    · intro j2 b1 b2 h2 pM
      first | (exfalso; omega) | (exfalso; simp_all; done)
  · intro j a1 a2 h1 oX
    refine WrJ.v (KK _ _ (fun P2 K2 => ?_))
    have I1 := ((I.xs oX)).out (v := (w (80 + 4 * j)))
    have J1 := ((J.xs oX)).out (v := (w (80 + 4 * j)))
    refine C_X12_judge_0 (d := 33) (M := 281) G.2.1 J1.1 K.1 K.2.1 ?_ ?_
    · intro b1 h2 pM
      first | (exfalso; omega) | (exfalso; simp_all; done)
    · intro j2 b1 b2 h2 pM
      obtain rfl : j2 = j := by omega
      exact endV K2 (qM I1 J1 K pM)
theorem AG_judge_1 {g : Gs} {h : Hc} {PX : Po} {w : Nat → Int} {A : Nat → Nat → Int} {n L : Nat} {b : Nat → Int} {im : Int} {wi : Nat → Int} {f : Int} (G : G9 g) (I : CLi h w A n L b im wi f) (J : MDi h w A n L b im wi f) (K : BTi w A n L b im wi) {x : Int} (KK : ∀ h1 c, AgJ g h1 mX12_judge [vR 281, vI x, vI 1] c → PX (.inl (some (vI c))) g h1) : Call 43 2 12 mX11_judge [vR 0, vI x, vI 1] g h (WrJ [(xIO, 1), (xNE, 2)] 300 g PX) := by
  refine C_X11_judge_1 (d := 37) (X := 0) G.1 I.1 K.1 I.2.1 K.2.1 ?_ ?_
  · intro a1
    refine WrJ.x (c := 1) List.mem_cons_self (KK _ _ (fun P2 K2 => ?_))
    have I1 := I
    have J1 := J
    refine C_X12_judge_1 (d := 33) (M := 281) G.2.1 J1.1 K.1 K.2.1 ?_ ?_
    · intro b1 h2 pM
      exact endX (v0 := 0) (by decide) K2 (qM I1 J1 K pM)
    · intro j2 b1 b2 h2 pM
      first | (exfalso; omega) | (exfalso; simp_all; done)
  · intro j a1 a2 h1 oX
    refine WrJ.v (KK _ _ (fun P2 K2 => ?_))
    have I1 := ((I.xs oX)).out (v := (w (81 + 4 * j)))
    have J1 := ((J.xs oX)).out (v := (w (81 + 4 * j)))
    refine C_X12_judge_1 (d := 33) (M := 281) G.2.1 J1.1 K.1 K.2.1 ?_ ?_
    · intro b1 h2 pM
      first | (exfalso; omega) | (exfalso; simp_all; done)
    · intro j2 b1 b2 h2 pM
      obtain rfl : j2 = j := by omega
      exact endV K2 (qM I1 J1 K pM)
theorem AG_judge_2 {g : Gs} {h : Hc} {PX : Po} {w : Nat → Int} {A : Nat → Nat → Int} {n L : Nat} {b : Nat → Int} {im : Int} {wi : Nat → Int} {f : Int} (G : G9 g) (I : CLi h w A n L b im wi f) (J : MDi h w A n L b im wi f) (K : BTi w A n L b im wi) {x : Int} (KK : ∀ h1 c, AgJ g h1 mX12_judge [vR 281, vI x, vI 2] c → PX (.inl (some (vI c))) g h1) : Call 43 2 12 mX11_judge [vR 0, vI x, vI 2] g h (WrJ [(xIO, 1), (xNE, 2)] 300 g PX) := by
  refine C_X11_judge_2 (d := 37) (X := 0) G.1 I.1 K.1 I.2.1 K.2.1 ?_ ?_
  · intro a1
    refine WrJ.x (c := 1) List.mem_cons_self (KK _ _ (fun P2 K2 => ?_))
    have I1 := I
    have J1 := J
    refine C_X12_judge_2 (d := 33) (M := 281) G.2.1 J1.1 K.1 K.2.1 ?_ ?_
    · intro b1 h2 pM
      exact endX (v0 := 0) (by decide) K2 (qM I1 J1 K pM)
    · intro j2 b1 b2 h2 pM
      first | (exfalso; omega) | (exfalso; simp_all; done)
  · intro j a1 a2 h1 oX
    refine WrJ.v (KK _ _ (fun P2 K2 => ?_))
    have I1 := ((I.xs oX)).out (v := (w (82 + 4 * j)))
    have J1 := ((J.xs oX)).out (v := (w (82 + 4 * j)))
    refine C_X12_judge_2 (d := 33) (M := 281) G.2.1 J1.1 K.1 K.2.1 ?_ ?_
    · intro b1 h2 pM
      first | (exfalso; omega) | (exfalso; simp_all; done)
    · intro j2 b1 b2 h2 pM
      obtain rfl : j2 = j := by omega
      exact endV K2 (qM I1 J1 K pM)
theorem AG_judge_3 {g : Gs} {h : Hc} {PX : Po} {w : Nat → Int} {A : Nat → Nat → Int} {n L : Nat} {b : Nat → Int} {im : Int} {wi : Nat → Int} {f : Int} (G : G9 g) (I : CLi h w A n L b im wi f) (J : MDi h w A n L b im wi f) (K : BTi w A n L b im wi) {x : Int} (KK : ∀ h1 c, AgJ g h1 mX12_judge [vR 281, vI x, vI 3] c → PX (.inl (some (vI c))) g h1) : Call 43 2 12 mX11_judge [vR 0, vI x, vI 3] g h (WrJ [(xIO, 1), (xNE, 2)] 300 g PX) := by
  refine C_X11_judge_3 (d := 37) (X := 0) G.1 I.1 K.1 I.2.1 K.2.1 ?_ ?_
  · intro a1
    refine WrJ.x (c := 1) List.mem_cons_self (KK _ _ (fun P2 K2 => ?_))
    have I1 := I
    have J1 := J
    refine C_X12_judge_3 (d := 33) (M := 281) G.2.1 J1.1 K.1 K.2.1 ?_ ?_
    · intro b1 h2 pM
      exact endX (v0 := 0) (by decide) K2 (qM I1 J1 K pM)
    · intro j2 b1 b2 h2 pM
      first | (exfalso; omega) | (exfalso; simp_all; done)
  · intro j a1 a2 h1 oX
    refine WrJ.v (KK _ _ (fun P2 K2 => ?_))
    have I1 := ((I.xs oX)).out (v := (w (83 + 4 * j)))
    have J1 := ((J.xs oX)).out (v := (w (83 + 4 * j)))
    refine C_X12_judge_3 (d := 33) (M := 281) G.2.1 J1.1 K.1 K.2.1 ?_ ?_
    · intro b1 h2 pM
      first | (exfalso; omega) | (exfalso; simp_all; done)
    · intro j2 b1 b2 h2 pM
      obtain rfl : j2 = j := by omega
      exact endV K2 (qM I1 J1 K pM)
theorem AG_judge_4 {g : Gs} {h : Hc} {PX : Po} {w : Nat → Int} {A : Nat → Nat → Int} {n L : Nat} {b : Nat → Int} {im : Int} {wi : Nat → Int} {f : Int} (G : G9 g) (I : CLi h w A n L b im wi f) (J : MDi h w A n L b im wi f) (K : BTi w A n L b im wi) {x : Int} (KK : ∀ h1 c, AgJ g h1 mX12_judge [vR 281, vI x, vI 4] c → PX (.inl (some (vI c))) g h1) : Call 43 2 12 mX11_judge [vR 0, vI x, vI 4] g h (WrJ [(xIO, 1), (xNE, 2)] 300 g PX) := by
  refine C_X11_judge_4 (d := 37) (X := 0) G.1 I.1 K.1 I.2.1 K.2.1 ?_ ?_
  · intro a1
    refine WrJ.x (c := 1) List.mem_cons_self (KK _ _ (fun P2 K2 => ?_))
    have I1 := I
    have J1 := J
    refine C_X12_judge_4 (d := 33) (M := 281) G.2.1 J1.1 K.1 K.2.1 ?_ ?_
    · intro b1 h2 pM
      exact endX (v0 := 0) (by decide) K2 (qM I1 J1 K pM)
    · intro j2 b1 b2 h2 pM
      first | (exfalso; omega) | (exfalso; simp_all; done)
  · intro j a1 a2 h1 oX
    refine WrJ.v (KK _ _ (fun P2 K2 => ?_))
    have I1 := ((I.xs oX)).out (v := (crW w j (waitAt w j (w 4).toNat)))
    have J1 := ((J.xs oX)).out (v := (crW w j (waitAt w j (w 4).toNat)))
    refine C_X12_judge_4 (d := 33) (M := 281) G.2.1 J1.1 K.1 K.2.1 ?_ ?_
    · intro b1 h2 pM
      first | (exfalso; omega) | (exfalso; simp_all; done)
    · intro j2 b1 b2 h2 pM
      obtain rfl : j2 = j := by omega
      exact endV K2 (qM I1 J1 K pM)
theorem AG_judge_5 {g : Gs} {h : Hc} {PX : Po} {w : Nat → Int} {A : Nat → Nat → Int} {n L : Nat} {b : Nat → Int} {im : Int} {wi : Nat → Int} {f : Int} (G : G9 g) (I : CLi h w A n L b im wi f) (J : MDi h w A n L b im wi f) (K : BTi w A n L b im wi) {x : Int} (KK : ∀ h1 c, AgJ g h1 mX12_judge [vR 281, vI x, vI 5] c → PX (.inl (some (vI c))) g h1) : Call 43 2 12 mX11_judge [vR 0, vI x, vI 5] g h (WrJ [(xIO, 1), (xNE, 2)] 300 g PX) := by
  refine C_X11_judge_5 (d := 37) (X := 0) G.1 I.1 K.1 I.2.1 K.2.1 ?_ ?_
  · intro a1
    refine WrJ.x (c := 1) List.mem_cons_self (KK _ _ (fun P2 K2 => ?_))
    have I1 := I
    have J1 := J
    refine C_X12_judge_5 (d := 33) (M := 281) G.2.1 J1.1 K.1 K.2.1 ?_ ?_
    · intro b1 h2 pM
      exact endX (v0 := 0) (by decide) K2 (qM I1 J1 K pM)
    · intro j2 b1 b2 h2 pM
      first | (exfalso; omega) | (exfalso; simp_all; done)
  · intro j a1 a2 h1 oX
    refine WrJ.v (KK _ _ (fun P2 K2 => ?_))
    have I1 := ((I.xs oX)).out (v := (((cntB (harP w j) (w 1).toNat : Nat) : Int)))
    have J1 := ((J.xs oX)).out (v := (((cntB (harP w j) (w 1).toNat : Nat) : Int)))
    refine C_X12_judge_5 (d := 33) (M := 281) G.2.1 J1.1 K.1 K.2.1 ?_ ?_
    · intro b1 h2 pM
      first | (exfalso; omega) | (exfalso; simp_all; done)
    · intro j2 b1 b2 h2 pM
      obtain rfl : j2 = j := by omega
      exact endV K2 (qM I1 J1 K pM)
theorem AG_judge_6 {g : Gs} {h : Hc} {PX : Po} {w : Nat → Int} {A : Nat → Nat → Int} {n L : Nat} {b : Nat → Int} {im : Int} {wi : Nat → Int} {f : Int} (G : G9 g) (I : CLi h w A n L b im wi f) (J : MDi h w A n L b im wi f) (K : BTi w A n L b im wi) {x : Int} (KK : ∀ h1 c, AgJ g h1 mX12_judge [vR 281, vI x, vI 6] c → PX (.inl (some (vI c))) g h1) : Call 43 2 12 mX11_judge [vR 0, vI x, vI 6] g h (WrJ [(xIO, 1), (xNE, 2)] 300 g PX) := by
  refine C_X11_judge_6 (d := 37) (X := 0) G.1 I.1 K.1 I.2.1 K.2.1 ?_ ?_
  · intro a1
    refine WrJ.x (c := 1) List.mem_cons_self (KK _ _ (fun P2 K2 => ?_))
    have I1 := I
    have J1 := J
    refine C_X12_judge_6 (d := 33) (M := 281) G.2.1 J1.1 K.1 K.2.1 ?_ ?_
    · intro b1 h2 pM
      exact endX (v0 := 0) (by decide) K2 (qM I1 J1 K pM)
    · intro j2 b1 b2 h2 pM
      first | (exfalso; omega) | (exfalso; simp_all; done)
  · intro j a1 a2 h1 oX
    refine WrJ.v (KK _ _ (fun P2 K2 => ?_))
    have I1 := ((I.xs oX)).out (v := (shareW w (j : Int)))
    have J1 := ((J.xs oX)).out (v := (shareW w (j : Int)))
    refine C_X12_judge_6 (d := 33) (M := 281) G.2.1 J1.1 K.1 K.2.1 ?_ ?_
    · intro b1 h2 pM
      first | (exfalso; omega) | (exfalso; simp_all; done)
    · intro j2 b1 b2 h2 pM
      obtain rfl : j2 = j := by omega
      exact endV K2 (qM I1 J1 K pM)
theorem AG_judge_7 {g : Gs} {h : Hc} {PX : Po} {w : Nat → Int} {A : Nat → Nat → Int} {n L : Nat} {b : Nat → Int} {im : Int} {wi : Nat → Int} {f : Int} (G : G9 g) (I : CLi h w A n L b im wi f) (J : MDi h w A n L b im wi f) (K : BTi w A n L b im wi) {x : Int} (KK : ∀ h1 c, AgJ g h1 mX12_judge [vR 281, vI x, vI 7] c → PX (.inl (some (vI c))) g h1) : Call 43 2 12 mX11_judge [vR 0, vI x, vI 7] g h (WrJ [(xIO, 1), (xNE, 2)] 300 g PX) := by
  refine C_X11_judge_7 (d := 37) (X := 0) G.1 I.1 K.1 I.2.1 K.2.1 ?_ ?_
  · intro a1
    refine WrJ.x (c := 1) List.mem_cons_self (KK _ _ (fun P2 K2 => ?_))
    have I1 := I
    have J1 := J
    refine C_X12_judge_7 (d := 33) (M := 281) G.2.1 J1.1 K.1 K.2.1 ?_ ?_
    · intro b1 h2 pM
      exact endX (v0 := 0) (by decide) K2 (qM I1 J1 K pM)
    · intro j2 b1 b2 h2 pM
      first | (exfalso; omega) | (exfalso; simp_all; done)
  · intro j a1 a2 h1 oX
    refine WrJ.v (KK _ _ (fun P2 K2 => ?_))
    have I1 := ((I.xs oX)).out (v := (freeHrs w j))
    have J1 := ((J.xs oX)).out (v := (freeHrs w j))
    refine C_X12_judge_7 (d := 33) (M := 281) G.2.1 J1.1 K.1 K.2.1 ?_ ?_
    · intro b1 h2 pM
      first | (exfalso; omega) | (exfalso; simp_all; done)
    · intro j2 b1 b2 h2 pM
      obtain rfl : j2 = j := by omega
      exact endV K2 (qM I1 J1 K pM)
theorem AG_judge_8 {g : Gs} {h : Hc} {PX : Po} {w : Nat → Int} {A : Nat → Nat → Int} {n L : Nat} {b : Nat → Int} {im : Int} {wi : Nat → Int} {f : Int} (G : G9 g) (I : CLi h w A n L b im wi f) (J : MDi h w A n L b im wi f) (K : BTi w A n L b im wi) {x : Int} (KK : ∀ h1 c, AgJ g h1 mX12_judge [vR 281, vI x, vI 8] c → PX (.inl (some (vI c))) g h1) : Call 43 2 12 mX11_judge [vR 0, vI x, vI 8] g h (WrJ [(xIO, 1), (xNE, 2)] 300 g PX) := by
  refine C_X11_judge_8 (d := 37) (X := 0) G.1 I.1 K.1 I.2.1 K.2.1 ?_ ?_
  · intro a1
    refine WrJ.x (c := 1) List.mem_cons_self (KK _ _ (fun P2 K2 => ?_))
    have I1 := I
    have J1 := J
    refine C_X12_judge_8 (d := 33) (M := 281) G.2.1 J1.1 K.1 K.2.1 ?_ ?_
    · intro b1 h2 pM
      exact endX (v0 := 0) (by decide) K2 (qM I1 J1 K pM)
    · intro j2 b1 b2 h2 pM
      first | (exfalso; omega) | (exfalso; simp_all; done)
  · intro j a1 a2 h1 oX
    refine WrJ.v (KK _ _ (fun P2 K2 => ?_))
    have I1 := ((I.xs oX)).out (v := (cirG w j (w 0).toNat 0 0))
    have J1 := ((J.xs oX)).out (v := (cirG w j (w 0).toNat 0 0))
    refine C_X12_judge_8 (d := 33) (M := 281) G.2.1 J1.1 K.1 K.2.1 ?_ ?_
    · intro b1 h2 pM
      first | (exfalso; omega) | (exfalso; simp_all; done)
    · intro j2 b1 b2 h2 pM
      obtain rfl : j2 = j := by omega
      exact endV K2 (qM I1 J1 K pM)
theorem AG_judge_n {g : Gs} {h : Hc} {PX : Po} {w : Nat → Int} {A : Nat → Nat → Int} {n L : Nat} {b : Nat → Int} {im : Int} {wi : Nat → Int} {f : Int} (G : G9 g) (I : CLi h w A n L b im wi f) (J : MDi h w A n L b im wi f) (K : BTi w A n L b im wi) {x y : Int} (hy : ¬ (0 ≤ y ∧ y ≤ 8)) (KK : ∀ h1 c, AgJ g h1 mX12_judge [vR 281, vI x, vI y] c → PX (.inl (some (vI c))) g h1) : Call 43 2 12 mX11_judge [vR 0, vI x, vI y] g h (WrJ [(xIO, 1), (xNE, 2)] 300 g PX) := by
  refine C_X11_judge_n (d := 37) (X := 0) G.1 I.1 K.1 I.2.1 K.2.1 hy ?_ ?_
  · intro a1
    refine WrJ.x (c := 1) List.mem_cons_self (KK _ _ (fun P2 K2 => ?_))
    have I1 := I
    have J1 := J
    refine C_X12_judge_n (d := 33) (M := 281) G.2.1 J1.1 K.1 K.2.1 hy ?_ ?_
    · intro b1 h2 pM
      exact endX (v0 := 0) (by decide) K2 (qM I1 J1 K pM)
    · intro b1 h2 pM
      first | (exfalso; omega) | (exfalso; simp_all; done)
  · intro a1
    refine WrJ.x (c := 2) (List.mem_cons_of_mem _ List.mem_cons_self) (KK _ _ (fun P2 K2 => ?_))
    have I1 := I
    have J1 := J
    refine C_X12_judge_n (d := 33) (M := 281) G.2.1 J1.1 K.1 K.2.1 hy ?_ ?_
    · intro b1 h2 pM
      first | (exfalso; omega) | (exfalso; simp_all; done)
    · intro b1 h2 pM
      exact endX (v0 := 0) (by decide) K2 (qM I1 J1 K pM)
theorem AG_cause_0 {g : Gs} {h : Hc} {PX : Po} {w : Nat → Int} {A : Nat → Nat → Int} {n L : Nat} {b : Nat → Int} {im : Int} {wi : Nat → Int} {f : Int} (G : G9 g) (I : CLi h w A n L b im wi f) (J : MDi h w A n L b im wi f) (K : BTi w A n L b im wi) {x : Int} (KK : ∀ h1 c, AgJ g h1 mX12_cause [vR 281, vI x, vI 0] c → PX (.inl (some (vI c))) g h1) : Call 43 2 12 mX11_cause [vR 0, vI x, vI 0] g h (WrJ [(xIO, 1), (xNE, 2)] 300 g PX) := by
  refine C_X11_cause_0 (d := 36) (X := 0) G.1 I.1 K.1 I.2.1 K.2.1 ?_ ?_
  · intro a1
    refine WrJ.x (c := 1) List.mem_cons_self (KK _ _ (fun P2 K2 => ?_))
    have I1 := I
    have J1 := J
    refine C_X12_cause_0 (d := 33) (M := 281) G.2.1 J1.1 K.1 K.2.1 ?_ ?_
    · intro b1 h2 pM
      exact endX (v0 := 0) (by decide) K2 (qM I1 J1 K pM)
    · intro c2 b1 b2 h2 pM
      first | (exfalso; omega) | (exfalso; simp_all; done)
  · intro c a1 a2 h1 oX
    refine WrJ.v (KK _ _ (fun P2 K2 => ?_))
    have I1 := ((I.xs oX)).out (v := (w (100 + 7 * c)))
    have J1 := ((J.xs oX)).out (v := (w (100 + 7 * c)))
    refine C_X12_cause_0 (d := 33) (M := 281) G.2.1 J1.1 K.1 K.2.1 ?_ ?_
    · intro b1 h2 pM
      first | (exfalso; omega) | (exfalso; simp_all; done)
    · intro c2 b1 b2 h2 pM
      obtain rfl : c2 = c := by omega
      exact endV K2 (qM I1 J1 K pM)
theorem AG_cause_1 {g : Gs} {h : Hc} {PX : Po} {w : Nat → Int} {A : Nat → Nat → Int} {n L : Nat} {b : Nat → Int} {im : Int} {wi : Nat → Int} {f : Int} (G : G9 g) (I : CLi h w A n L b im wi f) (J : MDi h w A n L b im wi f) (K : BTi w A n L b im wi) {x : Int} (KK : ∀ h1 c, AgJ g h1 mX12_cause [vR 281, vI x, vI 1] c → PX (.inl (some (vI c))) g h1) : Call 43 2 12 mX11_cause [vR 0, vI x, vI 1] g h (WrJ [(xIO, 1), (xNE, 2)] 300 g PX) := by
  refine C_X11_cause_1 (d := 36) (X := 0) G.1 I.1 K.1 I.2.1 K.2.1 ?_ ?_
  · intro a1
    refine WrJ.x (c := 1) List.mem_cons_self (KK _ _ (fun P2 K2 => ?_))
    have I1 := I
    have J1 := J
    refine C_X12_cause_1 (d := 33) (M := 281) G.2.1 J1.1 K.1 K.2.1 ?_ ?_
    · intro b1 h2 pM
      exact endX (v0 := 0) (by decide) K2 (qM I1 J1 K pM)
    · intro c2 b1 b2 h2 pM
      first | (exfalso; omega) | (exfalso; simp_all; done)
  · intro c a1 a2 h1 oX
    refine WrJ.v (KK _ _ (fun P2 K2 => ?_))
    have I1 := ((I.xs oX)).out (v := (w (101 + 7 * c)))
    have J1 := ((J.xs oX)).out (v := (w (101 + 7 * c)))
    refine C_X12_cause_1 (d := 33) (M := 281) G.2.1 J1.1 K.1 K.2.1 ?_ ?_
    · intro b1 h2 pM
      first | (exfalso; omega) | (exfalso; simp_all; done)
    · intro c2 b1 b2 h2 pM
      obtain rfl : c2 = c := by omega
      exact endV K2 (qM I1 J1 K pM)
theorem AG_cause_2 {g : Gs} {h : Hc} {PX : Po} {w : Nat → Int} {A : Nat → Nat → Int} {n L : Nat} {b : Nat → Int} {im : Int} {wi : Nat → Int} {f : Int} (G : G9 g) (I : CLi h w A n L b im wi f) (J : MDi h w A n L b im wi f) (K : BTi w A n L b im wi) {x : Int} (KK : ∀ h1 c, AgJ g h1 mX12_cause [vR 281, vI x, vI 2] c → PX (.inl (some (vI c))) g h1) : Call 43 2 12 mX11_cause [vR 0, vI x, vI 2] g h (WrJ [(xIO, 1), (xNE, 2)] 300 g PX) := by
  refine C_X11_cause_2 (d := 36) (X := 0) G.1 I.1 K.1 I.2.1 K.2.1 ?_ ?_
  · intro a1
    refine WrJ.x (c := 1) List.mem_cons_self (KK _ _ (fun P2 K2 => ?_))
    have I1 := I
    have J1 := J
    refine C_X12_cause_2 (d := 33) (M := 281) G.2.1 J1.1 K.1 K.2.1 ?_ ?_
    · intro b1 h2 pM
      exact endX (v0 := 0) (by decide) K2 (qM I1 J1 K pM)
    · intro c2 b1 b2 h2 pM
      first | (exfalso; omega) | (exfalso; simp_all; done)
  · intro c a1 a2 h1 oX
    refine WrJ.v (KK _ _ (fun P2 K2 => ?_))
    have I1 := ((I.xs oX)).out (v := (w (102 + 7 * c)))
    have J1 := ((J.xs oX)).out (v := (w (102 + 7 * c)))
    refine C_X12_cause_2 (d := 33) (M := 281) G.2.1 J1.1 K.1 K.2.1 ?_ ?_
    · intro b1 h2 pM
      first | (exfalso; omega) | (exfalso; simp_all; done)
    · intro c2 b1 b2 h2 pM
      obtain rfl : c2 = c := by omega
      exact endV K2 (qM I1 J1 K pM)
theorem AG_cause_3 {g : Gs} {h : Hc} {PX : Po} {w : Nat → Int} {A : Nat → Nat → Int} {n L : Nat} {b : Nat → Int} {im : Int} {wi : Nat → Int} {f : Int} (G : G9 g) (I : CLi h w A n L b im wi f) (J : MDi h w A n L b im wi f) (K : BTi w A n L b im wi) {x : Int} (KK : ∀ h1 c, AgJ g h1 mX12_cause [vR 281, vI x, vI 3] c → PX (.inl (some (vI c))) g h1) : Call 43 2 12 mX11_cause [vR 0, vI x, vI 3] g h (WrJ [(xIO, 1), (xNE, 2)] 300 g PX) := by
  refine C_X11_cause_3 (d := 36) (X := 0) G.1 I.1 K.1 I.2.1 K.2.1 ?_ ?_
  · intro a1
    refine WrJ.x (c := 1) List.mem_cons_self (KK _ _ (fun P2 K2 => ?_))
    have I1 := I
    have J1 := J
    refine C_X12_cause_3 (d := 33) (M := 281) G.2.1 J1.1 K.1 K.2.1 ?_ ?_
    · intro b1 h2 pM
      exact endX (v0 := 0) (by decide) K2 (qM I1 J1 K pM)
    · intro c2 b1 b2 h2 pM
      first | (exfalso; omega) | (exfalso; simp_all; done)
  · intro c a1 a2 h1 oX
    refine WrJ.v (KK _ _ (fun P2 K2 => ?_))
    have I1 := ((I.xs oX)).out (v := (w (103 + 7 * c)))
    have J1 := ((J.xs oX)).out (v := (w (103 + 7 * c)))
    refine C_X12_cause_3 (d := 33) (M := 281) G.2.1 J1.1 K.1 K.2.1 ?_ ?_
    · intro b1 h2 pM
      first | (exfalso; omega) | (exfalso; simp_all; done)
    · intro c2 b1 b2 h2 pM
      obtain rfl : c2 = c := by omega
      exact endV K2 (qM I1 J1 K pM)
theorem AG_cause_4 {g : Gs} {h : Hc} {PX : Po} {w : Nat → Int} {A : Nat → Nat → Int} {n L : Nat} {b : Nat → Int} {im : Int} {wi : Nat → Int} {f : Int} (G : G9 g) (I : CLi h w A n L b im wi f) (J : MDi h w A n L b im wi f) (K : BTi w A n L b im wi) {x : Int} (KK : ∀ h1 c, AgJ g h1 mX12_cause [vR 281, vI x, vI 4] c → PX (.inl (some (vI c))) g h1) : Call 43 2 12 mX11_cause [vR 0, vI x, vI 4] g h (WrJ [(xIO, 1), (xNE, 2)] 300 g PX) := by
  refine C_X11_cause_4 (d := 36) (X := 0) G.1 I.1 K.1 I.2.1 K.2.1 ?_ ?_
  · intro a1
    refine WrJ.x (c := 1) List.mem_cons_self (KK _ _ (fun P2 K2 => ?_))
    have I1 := I
    have J1 := J
    refine C_X12_cause_4 (d := 33) (M := 281) G.2.1 J1.1 K.1 K.2.1 ?_ ?_
    · intro b1 h2 pM
      exact endX (v0 := 0) (by decide) K2 (qM I1 J1 K pM)
    · intro c2 b1 b2 h2 pM
      first | (exfalso; omega) | (exfalso; simp_all; done)
  · intro c a1 a2 h1 oX
    refine WrJ.v (KK _ _ (fun P2 K2 => ?_))
    have I1 := ((I.xs oX)).out (v := (w (104 + 7 * c)))
    have J1 := ((J.xs oX)).out (v := (w (104 + 7 * c)))
    refine C_X12_cause_4 (d := 33) (M := 281) G.2.1 J1.1 K.1 K.2.1 ?_ ?_
    · intro b1 h2 pM
      first | (exfalso; omega) | (exfalso; simp_all; done)
    · intro c2 b1 b2 h2 pM
      obtain rfl : c2 = c := by omega
      exact endV K2 (qM I1 J1 K pM)
theorem AG_cause_5 {g : Gs} {h : Hc} {PX : Po} {w : Nat → Int} {A : Nat → Nat → Int} {n L : Nat} {b : Nat → Int} {im : Int} {wi : Nat → Int} {f : Int} (G : G9 g) (I : CLi h w A n L b im wi f) (J : MDi h w A n L b im wi f) (K : BTi w A n L b im wi) {x : Int} (KK : ∀ h1 c, AgJ g h1 mX12_cause [vR 281, vI x, vI 5] c → PX (.inl (some (vI c))) g h1) : Call 43 2 12 mX11_cause [vR 0, vI x, vI 5] g h (WrJ [(xIO, 1), (xNE, 2)] 300 g PX) := by
  refine C_X11_cause_5 (d := 36) (X := 0) G.1 I.1 K.1 I.2.1 K.2.1 ?_ ?_
  · intro a1
    refine WrJ.x (c := 1) List.mem_cons_self (KK _ _ (fun P2 K2 => ?_))
    have I1 := I
    have J1 := J
    refine C_X12_cause_5 (d := 33) (M := 281) G.2.1 J1.1 K.1 K.2.1 ?_ ?_
    · intro b1 h2 pM
      exact endX (v0 := 0) (by decide) K2 (qM I1 J1 K pM)
    · intro c2 b1 b2 h2 pM
      first | (exfalso; omega) | (exfalso; simp_all; done)
  · intro c a1 a2 h1 oX
    refine WrJ.v (KK _ _ (fun P2 K2 => ?_))
    have I1 := ((I.xs oX)).out (v := (w (105 + 7 * c)))
    have J1 := ((J.xs oX)).out (v := (w (105 + 7 * c)))
    refine C_X12_cause_5 (d := 33) (M := 281) G.2.1 J1.1 K.1 K.2.1 ?_ ?_
    · intro b1 h2 pM
      first | (exfalso; omega) | (exfalso; simp_all; done)
    · intro c2 b1 b2 h2 pM
      obtain rfl : c2 = c := by omega
      exact endV K2 (qM I1 J1 K pM)
theorem AG_cause_6 {g : Gs} {h : Hc} {PX : Po} {w : Nat → Int} {A : Nat → Nat → Int} {n L : Nat} {b : Nat → Int} {im : Int} {wi : Nat → Int} {f : Int} (G : G9 g) (I : CLi h w A n L b im wi f) (J : MDi h w A n L b im wi f) (K : BTi w A n L b im wi) {x : Int} (KK : ∀ h1 c, AgJ g h1 mX12_cause [vR 281, vI x, vI 6] c → PX (.inl (some (vI c))) g h1) : Call 43 2 12 mX11_cause [vR 0, vI x, vI 6] g h (WrJ [(xIO, 1), (xNE, 2)] 300 g PX) := by
  refine C_X11_cause_6 (d := 36) (X := 0) G.1 I.1 K.1 I.2.1 K.2.1 ?_ ?_
  · intro a1
    refine WrJ.x (c := 1) List.mem_cons_self (KK _ _ (fun P2 K2 => ?_))
    have I1 := I
    have J1 := J
    refine C_X12_cause_6 (d := 33) (M := 281) G.2.1 J1.1 K.1 K.2.1 ?_ ?_
    · intro b1 h2 pM
      exact endX (v0 := 0) (by decide) K2 (qM I1 J1 K pM)
    · intro c2 b1 b2 h2 pM
      first | (exfalso; omega) | (exfalso; simp_all; done)
  · intro c a1 a2 h1 oX
    refine WrJ.v (KK _ _ (fun P2 K2 => ?_))
    have I1 := ((I.xs oX)).out (v := (w (106 + 7 * c)))
    have J1 := ((J.xs oX)).out (v := (w (106 + 7 * c)))
    refine C_X12_cause_6 (d := 33) (M := 281) G.2.1 J1.1 K.1 K.2.1 ?_ ?_
    · intro b1 h2 pM
      first | (exfalso; omega) | (exfalso; simp_all; done)
    · intro c2 b1 b2 h2 pM
      obtain rfl : c2 = c := by omega
      exact endV K2 (qM I1 J1 K pM)
theorem AG_cause_7 {g : Gs} {h : Hc} {PX : Po} {w : Nat → Int} {A : Nat → Nat → Int} {n L : Nat} {b : Nat → Int} {im : Int} {wi : Nat → Int} {f : Int} (G : G9 g) (I : CLi h w A n L b im wi f) (J : MDi h w A n L b im wi f) (K : BTi w A n L b im wi) {x : Int} (KK : ∀ h1 c, AgJ g h1 mX12_cause [vR 281, vI x, vI 7] c → PX (.inl (some (vI c))) g h1) : Call 43 2 12 mX11_cause [vR 0, vI x, vI 7] g h (WrJ [(xIO, 1), (xNE, 2)] 300 g PX) := by
  refine C_X11_cause_7 (d := 36) (X := 0) G.1 I.1 K.1 I.2.1 K.2.1 ?_ ?_
  · intro a1
    refine WrJ.x (c := 1) List.mem_cons_self (KK _ _ (fun P2 K2 => ?_))
    have I1 := I
    have J1 := J
    refine C_X12_cause_7 (d := 33) (M := 281) G.2.1 J1.1 K.1 K.2.1 ?_ ?_
    · intro b1 h2 pM
      exact endX (v0 := 0) (by decide) K2 (qM I1 J1 K pM)
    · intro c2 b1 b2 h2 pM
      first | (exfalso; omega) | (exfalso; simp_all; done)
  · intro c a1 a2 h1 oX
    refine WrJ.v (KK _ _ (fun P2 K2 => ?_))
    have I1 := ((I.xs oX)).out (v := (if placeOf w (c : Int) < 0 then -1 else placeOf w (c : Int) / 12))
    have J1 := ((J.xs oX)).out (v := (if placeOf w (c : Int) < 0 then -1 else placeOf w (c : Int) / 12))
    refine C_X12_cause_7 (d := 33) (M := 281) G.2.1 J1.1 K.1 K.2.1 ?_ ?_
    · intro b1 h2 pM
      first | (exfalso; omega) | (exfalso; simp_all; done)
    · intro c2 b1 b2 h2 pM
      obtain rfl : c2 = c := by omega
      exact endV K2 (qM I1 J1 K pM)
theorem AG_cause_8 {g : Gs} {h : Hc} {PX : Po} {w : Nat → Int} {A : Nat → Nat → Int} {n L : Nat} {b : Nat → Int} {im : Int} {wi : Nat → Int} {f : Int} (G : G9 g) (I : CLi h w A n L b im wi f) (J : MDi h w A n L b im wi f) (K : BTi w A n L b im wi) {x : Int} (KK : ∀ h1 c, AgJ g h1 mX12_cause [vR 281, vI x, vI 8] c → PX (.inl (some (vI c))) g h1) : Call 43 2 12 mX11_cause [vR 0, vI x, vI 8] g h (WrJ [(xIO, 1), (xNE, 2)] 300 g PX) := by
  refine C_X11_cause_8 (d := 36) (X := 0) G.1 I.1 K.1 I.2.1 K.2.1 ?_ ?_
  · intro a1
    refine WrJ.x (c := 1) List.mem_cons_self (KK _ _ (fun P2 K2 => ?_))
    have I1 := I
    have J1 := J
    refine C_X12_cause_8 (d := 33) (M := 281) G.2.1 J1.1 K.1 K.2.1 ?_ ?_
    · intro b1 h2 pM
      exact endX (v0 := 0) (by decide) K2 (qM I1 J1 K pM)
    · intro c2 b1 b2 h2 pM
      first | (exfalso; omega) | (exfalso; simp_all; done)
  · intro c a1 a2 h1 oX
    refine WrJ.v (KK _ _ (fun P2 K2 => ?_))
    have I1 := ((I.xs oX)).out (v := (if placeOf w (c : Int) < 0 then -1 else placeOf w (c : Int) % 12))
    have J1 := ((J.xs oX)).out (v := (if placeOf w (c : Int) < 0 then -1 else placeOf w (c : Int) % 12))
    refine C_X12_cause_8 (d := 33) (M := 281) G.2.1 J1.1 K.1 K.2.1 ?_ ?_
    · intro b1 h2 pM
      first | (exfalso; omega) | (exfalso; simp_all; done)
    · intro c2 b1 b2 h2 pM
      obtain rfl : c2 = c := by omega
      exact endV K2 (qM I1 J1 K pM)
theorem AG_cause_9 {g : Gs} {h : Hc} {PX : Po} {w : Nat → Int} {A : Nat → Nat → Int} {n L : Nat} {b : Nat → Int} {im : Int} {wi : Nat → Int} {f : Int} (G : G9 g) (I : CLi h w A n L b im wi f) (J : MDi h w A n L b im wi f) (K : BTi w A n L b im wi) {x : Int} (KK : ∀ h1 c, AgJ g h1 mX12_cause [vR 281, vI x, vI 9] c → PX (.inl (some (vI c))) g h1) : Call 43 2 12 mX11_cause [vR 0, vI x, vI 9] g h (WrJ [(xIO, 1), (xNE, 2)] 300 g PX) := by
  refine C_X11_cause_9 (d := 36) (X := 0) G.1 I.1 K.1 I.2.1 K.2.1 ?_ ?_
  · intro a1
    refine WrJ.x (c := 1) List.mem_cons_self (KK _ _ (fun P2 K2 => ?_))
    have I1 := I
    have J1 := J
    refine C_X12_cause_9 (d := 33) (M := 281) G.2.1 J1.1 K.1 K.2.1 ?_ ?_
    · intro b1 h2 pM
      exact endX (v0 := 0) (by decide) K2 (qM I1 J1 K pM)
    · intro c2 b1 b2 h2 pM
      first | (exfalso; omega) | (exfalso; simp_all; done)
  · intro c a1 a2 h1 oX
    refine WrJ.v (KK _ _ (fun P2 K2 => ?_))
    have I1 := ((I.xs oX)).out (v := (leanOn w c))
    have J1 := ((J.xs oX)).out (v := (leanOn w c))
    refine C_X12_cause_9 (d := 33) (M := 281) G.2.1 J1.1 K.1 K.2.1 ?_ ?_
    · intro b1 h2 pM
      first | (exfalso; omega) | (exfalso; simp_all; done)
    · intro c2 b1 b2 h2 pM
      obtain rfl : c2 = c := by omega
      exact endV K2 (qM I1 J1 K pM)
theorem AG_cause_10 {g : Gs} {h : Hc} {PX : Po} {w : Nat → Int} {A : Nat → Nat → Int} {n L : Nat} {b : Nat → Int} {im : Int} {wi : Nat → Int} {f : Int} (G : G9 g) (I : CLi h w A n L b im wi f) (J : MDi h w A n L b im wi f) (K : BTi w A n L b im wi) {x : Int} (KK : ∀ h1 c, AgJ g h1 mX12_cause [vR 281, vI x, vI 10] c → PX (.inl (some (vI c))) g h1) : Call 43 2 12 mX11_cause [vR 0, vI x, vI 10] g h (WrJ [(xIO, 1), (xNE, 2)] 300 g PX) := by
  refine C_X11_cause_10 (d := 36) (X := 0) G.1 I.1 K.1 I.2.1 K.2.1 ?_ ?_
  · intro a1
    refine WrJ.x (c := 1) List.mem_cons_self (KK _ _ (fun P2 K2 => ?_))
    have I1 := I
    have J1 := J
    refine C_X12_cause_10 (d := 33) (M := 281) G.2.1 J1.1 K.1 K.2.1 ?_ ?_
    · intro b1 h2 pM
      exact endX (v0 := 0) (by decide) K2 (qM I1 J1 K pM)
    · intro c2 b1 b2 h2 pM
      first | (exfalso; omega) | (exfalso; simp_all; done)
  · intro c a1 a2 h1 oX
    refine WrJ.v (KK _ _ (fun P2 K2 => ?_))
    have I1 := ((I.xs oX)).out (v := ((benF w c 12 (w 0).toNat).1))
    have J1 := ((J.xs oX)).out (v := ((benF w c 12 (w 0).toNat).1))
    refine C_X12_cause_10 (d := 33) (M := 281) G.2.1 J1.1 K.1 K.2.1 ?_ ?_
    · intro b1 h2 pM
      first | (exfalso; omega) | (exfalso; simp_all; done)
    · intro c2 b1 b2 h2 pM
      obtain rfl : c2 = c := by omega
      exact endV K2 (qM I1 J1 K pM)
theorem AG_cause_11 {g : Gs} {h : Hc} {PX : Po} {w : Nat → Int} {A : Nat → Nat → Int} {n L : Nat} {b : Nat → Int} {im : Int} {wi : Nat → Int} {f : Int} (G : G9 g) (I : CLi h w A n L b im wi f) (J : MDi h w A n L b im wi f) (K : BTi w A n L b im wi) {x : Int} (KK : ∀ h1 c, AgJ g h1 mX12_cause [vR 281, vI x, vI 11] c → PX (.inl (some (vI c))) g h1) : Call 43 2 12 mX11_cause [vR 0, vI x, vI 11] g h (WrJ [(xIO, 1), (xNE, 2)] 300 g PX) := by
  refine C_X11_cause_11 (d := 36) (X := 0) G.1 I.1 K.1 I.2.1 K.2.1 ?_ ?_
  · intro a1
    refine WrJ.x (c := 1) List.mem_cons_self (KK _ _ (fun P2 K2 => ?_))
    have I1 := I
    have J1 := J
    refine C_X12_cause_11 (d := 33) (M := 281) G.2.1 J1.1 K.1 K.2.1 ?_ ?_
    · intro b1 h2 pM
      exact endX (v0 := 0) (by decide) K2 (qM I1 J1 K pM)
    · intro c2 b1 b2 h2 pM
      first | (exfalso; omega) | (exfalso; simp_all; done)
  · intro c a1 a2 h1 oX
    refine WrJ.v (KK _ _ (fun P2 K2 => ?_))
    have I1 := ((I.xs oX)).out (v := (delW w c))
    have J1 := ((J.xs oX)).out (v := (delW w c))
    refine C_X12_cause_11 (d := 33) (M := 281) G.2.1 J1.1 K.1 K.2.1 ?_ ?_
    · intro b1 h2 pM
      first | (exfalso; omega) | (exfalso; simp_all; done)
    · intro c2 b1 b2 h2 pM
      obtain rfl : c2 = c := by omega
      exact endV K2 (qM I1 J1 K pM)
theorem AG_cause_12 {g : Gs} {h : Hc} {PX : Po} {w : Nat → Int} {A : Nat → Nat → Int} {n L : Nat} {b : Nat → Int} {im : Int} {wi : Nat → Int} {f : Int} (G : G9 g) (I : CLi h w A n L b im wi f) (J : MDi h w A n L b im wi f) (K : BTi w A n L b im wi) {x : Int} (KK : ∀ h1 c, AgJ g h1 mX12_cause [vR 281, vI x, vI 12] c → PX (.inl (some (vI c))) g h1) : Call 43 2 12 mX11_cause [vR 0, vI x, vI 12] g h (WrJ [(xIO, 1), (xNE, 2)] 300 g PX) := by
  refine C_X11_cause_12 (d := 36) (X := 0) G.1 I.1 K.1 I.2.1 K.2.1 ?_ ?_
  · intro a1
    refine WrJ.x (c := 1) List.mem_cons_self (KK _ _ (fun P2 K2 => ?_))
    have I1 := I
    have J1 := J
    refine C_X12_cause_12 (d := 33) (M := 281) G.2.1 J1.1 K.1 K.2.1 ?_ ?_
    · intro b1 h2 pM
      exact endX (v0 := 0) (by decide) K2 (qM I1 J1 K pM)
    · intro c2 b1 b2 h2 pM
      first | (exfalso; omega) | (exfalso; simp_all; done)
  · intro c a1 a2 h1 oX
    refine WrJ.v (KK _ _ (fun P2 K2 => ?_))
    have I1 := ((I.xs oX)).out (v := (shaW w c))
    have J1 := ((J.xs oX)).out (v := (shaW w c))
    refine C_X12_cause_12 (d := 33) (M := 281) G.2.1 J1.1 K.1 K.2.1 ?_ ?_
    · intro b1 h2 pM
      first | (exfalso; omega) | (exfalso; simp_all; done)
    · intro c2 b1 b2 h2 pM
      obtain rfl : c2 = c := by omega
      exact endV K2 (qM I1 J1 K pM)
theorem AG_cause_n {g : Gs} {h : Hc} {PX : Po} {w : Nat → Int} {A : Nat → Nat → Int} {n L : Nat} {b : Nat → Int} {im : Int} {wi : Nat → Int} {f : Int} (G : G9 g) (I : CLi h w A n L b im wi f) (J : MDi h w A n L b im wi f) (K : BTi w A n L b im wi) {x y : Int} (hy : ¬ (0 ≤ y ∧ y ≤ 12)) (KK : ∀ h1 c, AgJ g h1 mX12_cause [vR 281, vI x, vI y] c → PX (.inl (some (vI c))) g h1) : Call 43 2 12 mX11_cause [vR 0, vI x, vI y] g h (WrJ [(xIO, 1), (xNE, 2)] 300 g PX) := by
  refine C_X11_cause_n (d := 36) (X := 0) G.1 I.1 K.1 I.2.1 K.2.1 hy ?_ ?_
  · intro a1
    refine WrJ.x (c := 1) List.mem_cons_self (KK _ _ (fun P2 K2 => ?_))
    have I1 := I
    have J1 := J
    refine C_X12_cause_n (d := 33) (M := 281) G.2.1 J1.1 K.1 K.2.1 hy ?_ ?_
    · intro b1 h2 pM
      exact endX (v0 := 0) (by decide) K2 (qM I1 J1 K pM)
    · intro b1 h2 pM
      first | (exfalso; omega) | (exfalso; simp_all; done)
  · intro a1
    refine WrJ.x (c := 2) (List.mem_cons_of_mem _ List.mem_cons_self) (KK _ _ (fun P2 K2 => ?_))
    have I1 := I
    have J1 := J
    refine C_X12_cause_n (d := 33) (M := 281) G.2.1 J1.1 K.1 K.2.1 hy ?_ ?_
    · intro b1 h2 pM
      first | (exfalso; omega) | (exfalso; simp_all; done)
    · intro b1 h2 pM
      exact endX (v0 := 0) (by decide) K2 (qM I1 J1 K pM)
