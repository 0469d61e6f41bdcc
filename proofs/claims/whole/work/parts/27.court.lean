/-! THE COURT -/
theorem storH {d kc ks : Nat} {y : Mth} {pc : Nat} {ls st : List AV} {g : Gs} {h : Hc} {P : Po} (K : ∀ h', h' = h → Run d kc ks y pc ls st g h' P) : Run d kc ks y pc ls st g h P := K h rfl
def scr (c r : Nat) : Nat → Prop := fun q => q = c + 1 ∨ q = r + 5
def Ct (g : Gs) (h : Hc) (c t r : Nat) (w : Nat → Int) : Prop := (CtG g c t r ∧ TwG g t ∧ LwG g r ∧ (∀ i, i < 16 → ¬ scr c r (t + i)) ∧ (∀ i, i < 5 → ¬ scr c r (r + i)) ∧ ¬ c + 1 = r + 5) ∧ (Tw h t w ∧ WF w ∧ Lw h r w ∧ LawOK w)
theorem Ct.ct {g : Gs} {h : Hc} {c t r : Nat} {w : Nat → Int} (q : Ct g h c t r w) : g.1[c]? = some (1, 3, [(t : Int), (r : Int), ((c + 1 : Nat) : Int)]) := q.1.1.1
theorem Ct.fa {g : Gs} {h : Hc} {c t r : Nat} {w : Nat → Int} (q : Ct g h c t r w) : g.1[c + 1]? = some (13, 10, []) := q.1.1.2
theorem Ct.tg {g : Gs} {h : Hc} {c t r : Nat} {w : Nat → Int} (q : Ct g h c t r w) : TwG g t := q.1.2.1
theorem Ct.lg {g : Gs} {h : Hc} {c t r : Nat} {w : Nat → Int} (q : Ct g h c t r w) : LwG g r := q.1.2.2.1
theorem Ct.ne {g : Gs} {h : Hc} {c t r : Nat} {w : Nat → Int} (q : Ct g h c t r w) : ¬ c + 1 = r + 5 := q.1.2.2.2.2.2
theorem Ct.tw {g : Gs} {h : Hc} {c t r : Nat} {w : Nat → Int} (q : Ct g h c t r w) : Tw h t w := q.2.1
theorem Ct.wf {g : Gs} {h : Hc} {c t r : Nat} {w : Nat → Int} (q : Ct g h c t r w) : WF w := q.2.2.1
theorem Ct.lw {g : Gs} {h : Hc} {c t r : Nat} {w : Nat → Int} (q : Ct g h c t r w) : Lw h r w := q.2.2.2.1
theorem Ct.lo {g : Gs} {h : Hc} {c t r : Nat} {w : Nat → Int} (q : Ct g h c t r w) : LawOK w := q.2.2.2.2
theorem Ct.off {g : Gs} {h h' : Hc} {c t r : Nat} {w : Nat → Int} (q : Ct g h c t r w) (o : Off (scr c r) h h') : Ct g h' c t r w := ⟨q.1, q.tw.off o q.1.2.2.2.1, q.wf, q.lw.off o q.1.2.2.2.2.1, q.lo⟩
theorem fact_gr {w : Nat → Int} {j : Nat} {c hr hu g1 g2 : Int} {k : Nat} (h : k ≠ 4) : factW w j c hr hu g1 k = factW w j c hr hu g2 k := by
  match k with
  | 0 => rfl
  | 1 => rfl
  | 2 => rfl
  | 3 => rfl
  | 4 => exact absurd rfl h
  | 5 => rfl
  | 6 => rfl
  | 7 => rfl
  | 8 => rfl
  | 9 => rfl
  | k + 10 => rfl
def lnW (w : Nat → Int) (x : Int) : Int := if 0 ≤ x then w (103 + 7 * x.toNat) else -1
theorem lean_ln (w : Nat → Int) (x : Int) : leanB w x = decide (0 ≤ lnW w x) := by
  unfold leanB lnW
  by_cases h : 0 ≤ x
  · rw [if_pos h]; simp [h]
  · rw [if_neg h]; simp [h]
theorem prec_ln (w : Nat → Int) (x : Int) : precB w x = (decide (0 ≤ lnW w x) && decide (w (104 + 7 * (lnW w x).toNat) = 1)) := by
  unfold precB
  rw [lean_ln]
  by_cases h : 0 ≤ x
  · unfold lnW; rw [if_pos h]
  · have e : lnW w x = -1 := by unfold lnW; rw [if_neg h]
    rw [e]; simp
theorem lnW_rng {w : Nat → Int} (hf : WF w) {x : Int} (h : x < 8) : -1 ≤ lnW w x ∧ lnW w x < 8 := by
  unfold lnW
  by_cases h0 : 0 ≤ x
  · rw [if_pos h0]; exact hf.on (c := x.toNat) (by omega)
  · rw [if_neg h0]; omega
def mn99 (x : Int) : Int := if x < 99 then x else 99
theorem mn99_rng {x : Int} (h : 0 ≤ x) : 0 ≤ mn99 x ∧ mn99 x ≤ 99 := by unfold mn99; split <;> omega
def latW (w : Nat → Int) (hr : Int) : Int := if 0 < hr - w 4 then hr - w 4 else 0
theorem latW_rng {w : Nat → Int} (hf : WF w) {hr : Int} (h : hr ≤ 99) : 0 ≤ latW w hr ∧ latW w hr ≤ 99 := by have := hf.hou; unfold latW; split <;> omega
/-- POINT in an hour, and as it would be -/
def pt0 (w : Nat → Int) (j c : Nat) (hr : Int) : Int := ptW w j c hr (w (80 + 4 * j)) (w (101 + 7 * c))
def wdW (w : Nat → Int) (j c : Nat) (hr : Int) : Int := ptW w j c hr (mn99 (w (80 + 4 * j) + latW w hr)) (w (101 + 7 * c))
def frN (w : Nat → Int) (c j : Nat) : Bool := decide (0 ≤ pt0 w j c (w 4))
def harP (w : Nat → Int) (j c : Nat) : Bool := decide (w (104 + 7 * c) = 0) && !frN w c j
def wdP (w : Nat → Int) (j c k : Nat) : Bool := decide (0 ≤ wdW w j c k)
def benS (w : Nat → Int) (c j : Nat) (a : Int × Int) : Int × Int := if 0 ≤ ff (wdP w j c) (w 4).toNat 12 ∧ ff (wdP w j c) (w 4).toNat 12 < a.2 then ((j : Int), ff (wdP w j c) (w 4).toNat 12) else a
def benF (w : Nat → Int) (c : Nat) (z : Int) : Nat → Int × Int := foldN (benS w c) (-1, z)
def delW (w : Nat → Int) (c : Nat) : Int := if placeOf w c < 0 ∨ placeOf w c % 12 < w 4 ∨ w (104 + 7 * c) ≠ 0 then -1 else if ff (wdP w (placeOf w c / 12).toNat c) (placeOf w c % 12).toNat 12 < 0 then -1 else ff (wdP w (placeOf w c / 12).toNat c) (placeOf w c % 12).toNat 12 - placeOf w c % 12
def gainW (w : Nat → Int) (c : Nat) : Int := w (102 + 7 * c) - w (101 + 7 * c) / 10
def lostB (w : Nat → Int) (c : Nat) : Bool := decide (w (104 + 7 * c) = 2) || decide (w (104 + 7 * c) = 3)
def aplS (w : Nat → Int) (c : Nat) (a : Int × Int) : Int × Int := if lostB w c = true ∧ (a.1 < 0 ∨ a.2 < gainW w c) ∧ 0 < cntB (frN w c) (w 0).toNat then ((c : Int), gainW w c) else a
def aplF (w : Nat → Int) : Nat → Int × Int := foldN (aplS w) (-1, 0)
def movP (w : Nat → Int) (j c k : Nat) : Bool := decide (0 ≤ ptW w j c (w 4) k (w (101 + 7 * c)))
def evnP (w : Nat → Int) (j c k : Nat) : Bool := decide (ptW w j c (w 4) (w (80 + 4 * j)) k < 0)
def frH (w : Nat → Int) (k j c : Nat) (hr : Int) : Bool := decide (0 ≤ ptW w j c hr (mn99 (k + hr)) (w (101 + 7 * c)))
theorem crW_pos (x : Int) : 0 ≤ (if 0 < x then x else 0) := by split <;> omega
def crW (w : Nat → Int) (j : Nat) (x : Int) : Int := if 0 < w (8 + (w 4).toNat) + sumW (factW w j x (w 4) (w (80 + 4 * j)) (w (101 + 7 * x.toNat))) w 2 - 10 * w (82 + 4 * j) then w (8 + (w 4).toNat) + sumW (factW w j x (w 4) (w (80 + 4 * j)) (w (101 + 7 * x.toNat))) w 2 - 10 * w (82 + 4 * j) else 0
set_option maxHeartbeats 400000 in
theorem C_X1_tellFacts {d : Nat} {g : Gs} {h : Hc} {P : Po} {c t r : Nat} {w : Nat → Int} (hC : Ct g h c t r w) {j : Nat} {x hr hu : Int} (hj : j < 5) (hx1 : -1 ≤ x) (hx2 : x < w 1) (K : ∀ h', Off (fun q => q = c + 1) h h' → (∀ k, k < 10 → h' (c + 1) k = factW w j x hr hu (w (101 + 7 * x.toNat)) k) → P (.inl none) g h') : Call (d + 0) 0 0 mX1_tellFacts [vR c, vI ((j : Nat) : Int), vI x, vI hr, vI hu] g h P := by
  have hcs := hC.wf.cas
  refine Call_of rfl ⟨by decide +kernel, rfl⟩ (Nat.le_of_ble_eq_true rfl) rfl ?_
  have hO0 : Off (scr c r) h h := Off.rf _ _
  suffices J1 : Run (d + 0) 0 0 mX1_tellFacts 9 [vR c, vI ((j : Nat) : Int), vI x, vI hr, vI hu, vU, vU] [vI (bI (decide (0 ≤ x)))] g h P by
    refine iL2 dX1_tellFacts_0 ?_
    refine R_if_lt dX1_tellFacts_1 (fun hb1 => ?_) (fun hb1 => ?_)
    · refine R_iconst_0 dX1_tellFacts_8 ?_
      exact topV (v := bI (decide (0 ≤ x))) (by first | (rw [bI_t (by first | assumption | (simp; omega))]) | (rw [bI_f (by first | assumption | (simp; omega))])) J1
    · refine R_iconst_1 dX1_tellFacts_4 ?_
      refine R_goto dX1_tellFacts_5 ?_
      exact topV (v := bI (decide (0 ≤ x))) (by first | (rw [bI_t (by first | assumption | (simp; omega))]) | (rw [bI_f (by first | assumption | (simp; omega))])) J1
  refine iS5 dX1_tellFacts_9 ?_
  suffices J2 : Run (d + 0) 0 0 mX1_tellFacts 29 [vR c, vI ((j : Nat) : Int), vI x, vI hr, vI hu, vI (bI (decide (0 ≤ x))), vU] [vI (lnW w x)] g h P by
    refine iL5 dX1_tellFacts_11 ?_
    refine R_ifB_eq dX1_tellFacts_13 (fun hb13 => ?_) (fun hb13 => ?_)
    · refine R_iconst_m1 dX1_tellFacts_28 ?_
      exact topV (v := lnW w x) (by unfold lnW; first | (rw [if_pos (by simpa using hb13)]) | (rw [if_neg (by simpa using hb13)])) J2
    · have hx9 : 0 ≤ x := of_decide_eq_true hb13
      refine aL0 dX1_tellFacts_16 ?_
      refine R_getR dX1_tellFacts_17 fX1_17.r hC.ct rfl ?_
      refine R_getR dX1_tellFacts_20 fX1_25 hC.tg.o rfl ?_
      refine iL2 dX1_tellFacts_23 ?_
      refine topV (v := ((x.toNat : Nat) : Int)) (by have := of_decide_eq_true hb13; omega) ?_
      refine ialdN dX1_tellFacts_24 hC.tg.a8 rfl (by omega) ?_
      refine topV (v := w (103 + 7 * x.toNat)) (hC.tw.a8 (by omega)) ?_
      have hq3 := hC.wf.on (c := x.toNat) (by omega)
      refine R_goto dX1_tellFacts_25 ?_
      exact topV (v := lnW w x) (by unfold lnW; first | (rw [if_pos (by simpa using hb13)]) | (rw [if_neg (by simpa using hb13)])) J2
  refine iS6 dX1_tellFacts_29 ?_
  refine aL0 dX1_tellFacts_31 ?_
  refine R_getR dX1_tellFacts_32 fX1_11.r hC.ct rfl ?_
  refine R_iconst_0 dX1_tellFacts_35 ?_
  refine iL1 dX1_tellFacts_36 ?_
  refine iastN (k := 0) dX1_tellFacts_37 hC.fa rfl (by decide) ?_
  refine storH (fun h4 e4 => ?_)
  have hO4 : Off (scr c r) h h4 := by rw [e4]; exact hO0.upd (Or.inl rfl)
  have hC4 := hC.off hO4
  have hX4 : Off (fun q => q = c + 1) h h4 := by rw [e4]; exact (Off.rf (fun q => q = c + 1) h).upd rfl
  refine aL0 dX1_tellFacts_38 ?_
  refine R_getR dX1_tellFacts_39 fX1_11.r hC.ct rfl ?_
  refine R_iconst_1 dX1_tellFacts_42 ?_
  refine iL4 dX1_tellFacts_43 ?_
  refine iastN (k := 1) dX1_tellFacts_45 hC.fa rfl (by decide) ?_
  refine storH (fun h5 e5 => ?_)
  have hO5 : Off (scr c r) h h5 := by rw [e5]; exact hO4.upd (Or.inl rfl)
  have hC5 := hC.off hO5
  have hX5 : Off (fun q => q = c + 1) h h5 := by rw [e5]; exact hX4.upd rfl
  refine aL0 dX1_tellFacts_46 ?_
  refine R_getR dX1_tellFacts_47 fX1_11.r hC.ct rfl ?_
  refine R_iconst_2 dX1_tellFacts_50 ?_
  refine aL0 dX1_tellFacts_51 ?_
  refine R_getR dX1_tellFacts_52 fX1_17.r hC.ct rfl ?_
  refine R_getR dX1_tellFacts_55 fX1_32 hC.tg.o rfl ?_
  refine iL1 dX1_tellFacts_58 ?_
  refine ialdN dX1_tellFacts_59 hC.tg.a3 rfl (by omega) ?_
  refine topV (v := w (82 + 4 * j)) (hC5.tw.a3 (by omega)) ?_
  have hq6 := hC.wf.nv (j := j) (by omega)
  refine iastN (k := 2) dX1_tellFacts_60 hC.fa rfl (by decide) ?_
  refine storH (fun h7 e7 => ?_)
  have hO7 : Off (scr c r) h h7 := by rw [e7]; exact hO5.upd (Or.inl rfl)
  have hC7 := hC.off hO7
  have hX7 : Off (fun q => q = c + 1) h h7 := by rw [e7]; exact hX5.upd rfl
  refine aL0 dX1_tellFacts_61 ?_
  refine R_getR dX1_tellFacts_62 fX1_11.r hC.ct rfl ?_
  refine R_iconst_3 dX1_tellFacts_65 ?_
  suffices J8 : Run (d + 0) 0 0 mX1_tellFacts 85 [vR c, vI ((j : Nat) : Int), vI x, vI hr, vI hu, vI (bI (decide (0 ≤ x))), vI (lnW w x)] [vI ((if 0 ≤ x then w (100 + 7 * x.toNat) else 6)), vI 3, vR (c + 1)] g h7 P by
    refine iL5 dX1_tellFacts_66 ?_
    refine R_ifB_eq dX1_tellFacts_68 (fun hb68 => ?_) (fun hb68 => ?_)
    · refine R_bipush dX1_tellFacts_83 (by decide) ?_
      exact topV (v := (if 0 ≤ x then w (100 + 7 * x.toNat) else 6)) (by first | (rw [if_pos (by simpa using hb68)]) | (rw [if_neg (by simpa using hb68)])) J8
    · have hx9 : 0 ≤ x := of_decide_eq_true hb68
      refine aL0 dX1_tellFacts_71 ?_
      refine R_getR dX1_tellFacts_72 fX1_17.r hC.ct rfl ?_
      refine R_getR dX1_tellFacts_75 fX1_35 hC.tg.o rfl ?_
      refine iL2 dX1_tellFacts_78 ?_
      refine topV (v := ((x.toNat : Nat) : Int)) (by have := of_decide_eq_true hb68; omega) ?_
      refine ialdN dX1_tellFacts_79 hC.tg.a5 rfl (by omega) ?_
      refine topV (v := w (100 + 7 * x.toNat)) (hC7.tw.a5 (by omega)) ?_
      have hq9 := hC.wf.ki (c := x.toNat) (by omega)
      refine R_goto dX1_tellFacts_80 ?_
      exact topV (v := (if 0 ≤ x then w (100 + 7 * x.toNat) else 6)) (by first | (rw [if_pos (by simpa using hb68)]) | (rw [if_neg (by simpa using hb68)])) J8
  refine iastN (k := 3) dX1_tellFacts_85 hC.fa rfl (by decide) ?_
  refine storH (fun h10 e10 => ?_)
  have hO10 : Off (scr c r) h h10 := by rw [e10]; exact hO7.upd (Or.inl rfl)
  have hC10 := hC.off hO10
  have hX10 : Off (fun q => q = c + 1) h h10 := by rw [e10]; exact hX7.upd rfl
  refine aL0 dX1_tellFacts_86 ?_
  refine R_getR dX1_tellFacts_87 fX1_11.r hC.ct rfl ?_
  refine R_iconst_4 dX1_tellFacts_90 ?_
  suffices J11 : Run (d + 0) 0 0 mX1_tellFacts 109 [vR c, vI ((j : Nat) : Int), vI x, vI hr, vI hu, vI (bI (decide (0 ≤ x))), vI (lnW w x)] [vI ((if 0 ≤ x then w (101 + 7 * x.toNat) else 0)), vI 4, vR (c + 1)] g h10 P by
    refine iL5 dX1_tellFacts_91 ?_
    refine R_ifB_eq dX1_tellFacts_93 (fun hb93 => ?_) (fun hb93 => ?_)
    · refine R_iconst_0 dX1_tellFacts_108 ?_
      exact topV (v := (if 0 ≤ x then w (101 + 7 * x.toNat) else 0)) (by first | (rw [if_pos (by simpa using hb93)]) | (rw [if_neg (by simpa using hb93)])) J11
    · have hx9 : 0 ≤ x := of_decide_eq_true hb93
      refine aL0 dX1_tellFacts_96 ?_
      refine R_getR dX1_tellFacts_97 fX1_17.r hC.ct rfl ?_
      refine R_getR dX1_tellFacts_100 fX1_38 hC.tg.o rfl ?_
      refine iL2 dX1_tellFacts_103 ?_
      refine topV (v := ((x.toNat : Nat) : Int)) (by have := of_decide_eq_true hb93; omega) ?_
      refine ialdN dX1_tellFacts_104 hC.tg.a6 rfl (by omega) ?_
      refine topV (v := w (101 + 7 * x.toNat)) (hC10.tw.a6 (by omega)) ?_
      have hq12 := hC.wf.gr (c := x.toNat) (by omega)
      refine R_goto dX1_tellFacts_105 ?_
      exact topV (v := (if 0 ≤ x then w (101 + 7 * x.toNat) else 0)) (by first | (rw [if_pos (by simpa using hb93)]) | (rw [if_neg (by simpa using hb93)])) J11
  refine iastN (k := 4) dX1_tellFacts_109 hC.fa rfl (by decide) ?_
  refine storH (fun h13 e13 => ?_)
  have hO13 : Off (scr c r) h h13 := by rw [e13]; exact hO10.upd (Or.inl rfl)
  have hC13 := hC.off hO13
  have hX13 : Off (fun q => q = c + 1) h h13 := by rw [e13]; exact hX10.upd rfl
  refine aL0 dX1_tellFacts_110 ?_
  refine R_getR dX1_tellFacts_111 fX1_11.r hC.ct rfl ?_
  refine R_iconst_5 dX1_tellFacts_114 ?_
  suffices J14 : Run (d + 0) 0 0 mX1_tellFacts 133 [vR c, vI ((j : Nat) : Int), vI x, vI hr, vI hu, vI (bI (decide (0 ≤ x))), vI (lnW w x)] [vI ((if 0 ≤ x then w (102 + 7 * x.toNat) else 0)), vI 5, vR (c + 1)] g h13 P by
    refine iL5 dX1_tellFacts_115 ?_
    refine R_ifB_eq dX1_tellFacts_117 (fun hb117 => ?_) (fun hb117 => ?_)
    · refine R_iconst_0 dX1_tellFacts_132 ?_
      exact topV (v := (if 0 ≤ x then w (102 + 7 * x.toNat) else 0)) (by first | (rw [if_pos (by simpa using hb117)]) | (rw [if_neg (by simpa using hb117)])) J14
    · have hx9 : 0 ≤ x := of_decide_eq_true hb117
      refine aL0 dX1_tellFacts_120 ?_
      refine R_getR dX1_tellFacts_121 fX1_17.r hC.ct rfl ?_
      refine R_getR dX1_tellFacts_124 fX1_41 hC.tg.o rfl ?_
      refine iL2 dX1_tellFacts_127 ?_
      refine topV (v := ((x.toNat : Nat) : Int)) (by have := of_decide_eq_true hb117; omega) ?_
      refine ialdN dX1_tellFacts_128 hC.tg.a7 rfl (by omega) ?_
      refine topV (v := w (102 + 7 * x.toNat)) (hC13.tw.a7 (by omega)) ?_
      have hq15 := hC.wf.wo (c := x.toNat) (by omega)
      refine R_goto dX1_tellFacts_129 ?_
      exact topV (v := (if 0 ≤ x then w (102 + 7 * x.toNat) else 0)) (by first | (rw [if_pos (by simpa using hb117)]) | (rw [if_neg (by simpa using hb117)])) J14
  refine iastN (k := 5) dX1_tellFacts_133 hC.fa rfl (by decide) ?_
  refine storH (fun h16 e16 => ?_)
  have hO16 : Off (scr c r) h h16 := by rw [e16]; exact hO13.upd (Or.inl rfl)
  have hC16 := hC.off hO16
  have hX16 : Off (fun q => q = c + 1) h h16 := by rw [e16]; exact hX13.upd rfl
  refine aL0 dX1_tellFacts_134 ?_
  refine R_getR dX1_tellFacts_135 fX1_11.r hC.ct rfl ?_
  refine R_bipush dX1_tellFacts_138 (by decide) ?_
  refine iL3 dX1_tellFacts_140 ?_
  refine iastN (k := 6) dX1_tellFacts_141 hC.fa rfl (by decide) ?_
  refine storH (fun h17 e17 => ?_)
  have hO17 : Off (scr c r) h h17 := by rw [e17]; exact hO16.upd (Or.inl rfl)
  have hC17 := hC.off hO17
  have hX17 : Off (fun q => q = c + 1) h h17 := by rw [e17]; exact hX16.upd rfl
  refine aL0 dX1_tellFacts_142 ?_
  refine R_getR dX1_tellFacts_143 fX1_11.r hC.ct rfl ?_
  refine R_bipush dX1_tellFacts_146 (by decide) ?_
  suffices J18 : Run (d + 0) 0 0 mX1_tellFacts 158 [vR c, vI ((j : Nat) : Int), vI x, vI hr, vI hu, vI (bI (decide (0 ≤ x))), vI (lnW w x)] [vI (bI (leanB w x)), vI 7, vR (c + 1)] g h17 P by
    refine iL6 dX1_tellFacts_148 ?_
    refine R_if_lt dX1_tellFacts_150 (fun hb150 => ?_) (fun hb150 => ?_)
    · refine R_iconst_0 dX1_tellFacts_157 ?_
      exact topV (v := bI (leanB w x)) (by rw [lean_ln]; first | (rw [bI_t (by simp; omega)]) | (rw [bI_f (by simp; omega)])) J18
    · refine R_iconst_1 dX1_tellFacts_153 ?_
      refine R_goto dX1_tellFacts_154 ?_
      exact topV (v := bI (leanB w x)) (by rw [lean_ln]; first | (rw [bI_t (by simp; omega)]) | (rw [bI_f (by simp; omega)])) J18
  refine iastN (k := 7) dX1_tellFacts_158 hC.fa rfl (by decide) ?_
  refine storH (fun h19 e19 => ?_)
  have hO19 : Off (scr c r) h h19 := by rw [e19]; exact hO17.upd (Or.inl rfl)
  have hC19 := hC.off hO19
  have hX19 : Off (fun q => q = c + 1) h h19 := by rw [e19]; exact hX17.upd rfl
  refine aL0 dX1_tellFacts_159 ?_
  refine R_getR dX1_tellFacts_160 fX1_11.r hC.ct rfl ?_
  refine R_bipush dX1_tellFacts_163 (by decide) ?_
  suffices J20 : Run (d + 0) 0 0 mX1_tellFacts 189 [vR c, vI ((j : Nat) : Int), vI x, vI hr, vI hu, vI (bI (decide (0 ≤ x))), vI (lnW w x)] [vI (bI (precB w x)), vI 8, vR (c + 1)] g h19 P by
    refine iL6 dX1_tellFacts_165 ?_
    refine R_if_lt dX1_tellFacts_167 (fun hb167 => ?_) (fun hb167 => ?_)
    · refine R_iconst_0 dX1_tellFacts_188 ?_
      exact topV (v := bI (precB w x)) (by rw [prec_ln]; first | (rw [bI_t (by simp; omega)]) | (rw [bI_f (by simp; omega)])) J20
    · have hq9 := lnW_rng hC.wf (x := x) (by omega)
      refine aL0 dX1_tellFacts_170 ?_
      refine R_getR dX1_tellFacts_171 fX1_17.r hC.ct rfl ?_
      refine R_getR dX1_tellFacts_174 fX1_44 hC.tg.o rfl ?_
      refine iL6 dX1_tellFacts_177 ?_
      refine topV (v := (((lnW w x).toNat : Nat) : Int)) (by omega) ?_
      refine ialdN dX1_tellFacts_179 hC.tg.a9 rfl (by omega) ?_
      refine topV (v := w (104 + 7 * ((lnW w x).toNat))) (hC19.tw.a9 (by omega)) ?_
      have hq21 := hC.wf.st (c := ((lnW w x).toNat)) (by omega)
      refine R_iconst_1 dX1_tellFacts_180 ?_
      refine R_icmp_ne dX1_tellFacts_181 (fun hb181 => ?_) (fun hb181 => ?_)
      · refine R_iconst_0 dX1_tellFacts_188 ?_
        exact topV (v := bI (precB w x)) (by rw [prec_ln]; first | (rw [bI_t (by simp; omega)]) | (rw [bI_f (by simp; omega)])) J20
      · refine R_iconst_1 dX1_tellFacts_184 ?_
        refine R_goto dX1_tellFacts_185 ?_
        exact topV (v := bI (precB w x)) (by rw [prec_ln]; first | (rw [bI_t (by simp; omega)]) | (rw [bI_f (by simp; omega)])) J20
  refine iastN (k := 8) dX1_tellFacts_189 hC.fa rfl (by decide) ?_
  refine storH (fun h22 e22 => ?_)
  have hO22 : Off (scr c r) h h22 := by rw [e22]; exact hO19.upd (Or.inl rfl)
  have hC22 := hC.off hO22
  have hX22 : Off (fun q => q = c + 1) h h22 := by rw [e22]; exact hX19.upd rfl
  refine aL0 dX1_tellFacts_190 ?_
  refine R_getR dX1_tellFacts_191 fX1_11.r hC.ct rfl ?_
  refine R_bipush dX1_tellFacts_194 (by decide) ?_
  suffices J23 : Run (d + 0) 0 0 mX1_tellFacts 207 [vR c, vI ((j : Nat) : Int), vI x, vI hr, vI hu, vI (bI (decide (0 ≤ x))), vI (lnW w x)] [vI (bI (decide (6 ≤ hr))), vI 9, vR (c + 1)] g h22 P by
    refine iL3 dX1_tellFacts_196 ?_
    refine R_bipush dX1_tellFacts_197 (by decide) ?_
    refine R_icmp_lt dX1_tellFacts_199 (fun hb199 => ?_) (fun hb199 => ?_)
    · refine R_iconst_0 dX1_tellFacts_206 ?_
      exact topV (v := bI (decide (6 ≤ hr))) (by first | (rw [bI_t (by first | assumption | (simp; omega))]) | (rw [bI_f (by first | assumption | (simp; omega))])) J23
    · refine R_iconst_1 dX1_tellFacts_202 ?_
      refine R_goto dX1_tellFacts_203 ?_
      exact topV (v := bI (decide (6 ≤ hr))) (by first | (rw [bI_t (by first | assumption | (simp; omega))]) | (rw [bI_f (by first | assumption | (simp; omega))])) J23
  refine iastN (k := 9) dX1_tellFacts_207 hC.fa rfl (by decide) ?_
  refine storH (fun h24 e24 => ?_)
  have hO24 : Off (scr c r) h h24 := by rw [e24]; exact hO22.upd (Or.inl rfl)
  have hC24 := hC.off hO24
  have hX24 : Off (fun q => q = c + 1) h h24 := by rw [e24]; exact hX22.upd rfl
  exact R_vret dX1_tellFacts_208 rfl (K _ hX24 (fun k hk => by
      match k, hk with
      | 0, _ => simp [e24, e22, e19, e17, e16, e13, e10, e7, e5, e4, updH, factW]
      | 1, _ => simp [e24, e22, e19, e17, e16, e13, e10, e7, e5, e4, updH, factW]
      | 2, _ => simp [e24, e22, e19, e17, e16, e13, e10, e7, e5, e4, updH, factW]
      | 3, _ => simp [e24, e22, e19, e17, e16, e13, e10, e7, e5, e4, updH, factW]
      | 4, _ => simp [e24, e22, e19, e17, e16, e13, e10, e7, e5, e4, updH, factW]
      | 5, _ => simp [e24, e22, e19, e17, e16, e13, e10, e7, e5, e4, updH, factW]
      | 6, _ => simp [e24, e22, e19, e17, e16, e13, e10, e7, e5, e4, updH, factW]
      | 7, _ => simp [e24, e22, e19, e17, e16, e13, e10, e7, e5, e4, updH, factW]
      | 8, _ => simp [e24, e22, e19, e17, e16, e13, e10, e7, e5, e4, updH, factW]
      | 9, _ => simp [e24, e22, e19, e17, e16, e13, e10, e7, e5, e4, updH, factW]))
set_option maxHeartbeats 400000 in
theorem C_X1_weigh {d : Nat} {g : Gs} {h : Hc} {P : Po} {c t r : Nat} {w : Nat → Int} (hC : Ct g h c t r w) {j x : Nat} {hr hu gr : Int} (hj : j < 5) (hx : (x : Int) < w 1) (hb1 : 0 ≤ hr ∧ hr ≤ 99) (hb2 : 0 ≤ hu ∧ hu ≤ 99) (hb3 : 0 ≤ gr ∧ gr ≤ 99) (K : ∀ h', Off (scr c r) h h' → P (.inl (some (vI (ptW w j (x : Int) hr hu gr)))) g h') : Call (d + 2) 0 0 mX1_weigh [vR c, vI ((j : Nat) : Int), vI ((x : Nat) : Int), vI hr, vI hu, vI gr] g h P := by
  have hcs := hC.wf.cas
  refine Call_of rfl ⟨by decide +kernel, rfl⟩ (Nat.le_of_ble_eq_true rfl) rfl ?_
  have hO0 : Off (scr c r) h h := Off.rf _ _
  refine aL0 dX1_weigh_0 ?_
  refine iL1 dX1_weigh_1 ?_
  refine iL2 dX1_weigh_2 ?_
  refine iL3 dX1_weigh_3 ?_
  refine iL4 dX1_weigh_4 ?_
  refine invV4 rfl dX1_weigh_6 kX1_47 hC.ct (Nat.le_of_ble_eq_true rfl) (Nat.zero_le _) (Nat.zero_le _) (C_X1_tellFacts hC hj (by omega) (by omega) (fun h1 hx1 hF1 => konV ?_))
  have hO1 := hO0.tr (hx1.mono (fun q hq => Or.inl hq))
  have hC1 := hC.off hO1
  refine aL0 dX1_weigh_9 ?_
  refine R_getR dX1_weigh_10 fX1_11.r hC.ct rfl ?_
  refine R_iconst_4 dX1_weigh_13 ?_
  refine iL5 dX1_weigh_14 ?_
  refine iastN (k := 4) dX1_weigh_16 hC.fa rfl (by decide) ?_
  refine storH (fun h5 e5 => ?_)
  have hO5 : Off (scr c r) h h5 := by rw [e5]; exact hO1.upd (Or.inl rfl)
  have hC5 := hC.off hO5
  have hF5 : ∀ k, k < 10 → h5 (c + 1) k = factW w j (x : Int) hr hu gr k := by
    intro k hk
    by_cases e9 : k = 4
    · subst e9; simp [e5, updH, factW]
    · rw [e5, updH_i e9, hF1 k hk]; exact fact_gr e9
  have hok := okF_fact hC.wf hj (c := (x : Int)) (by omega) hb1 hb2 hb3
  refine iL4 dX1_weigh_17 ?_
  refine aL0 dX1_weigh_19 ?_
  refine R_getR dX1_weigh_20 fX1_17.r hC.ct rfl ?_
  refine R_getR dX1_weigh_23 fX1_51 hC.tg.o rfl ?_
  refine iL1 dX1_weigh_26 ?_
  refine ialdN dX1_weigh_27 hC.tg.a2 rfl (by omega) ?_
  refine topV (v := w (81 + 4 * j)) (hC5.tw.a2 (by omega)) ?_
  have hq11 := hC.wf.me (j := j) (by omega)
  refine addV dX1_weigh_28 (wid (by omega) (by omega)) ?_
  refine aL0 dX1_weigh_29 ?_
  refine R_getR dX1_weigh_30 fX1_21.r hC.ct rfl ?_
  refine R_sipush dX1_weigh_33 (by decide) ?_
  refine aL0 dX1_weigh_36 ?_
  refine R_getR dX1_weigh_37 fX1_11.r hC.ct rfl ?_
  refine invV2 rfl dX1_weigh_40 kX1_54 hC.lg.o (Nat.le_of_ble_eq_true rfl) (Nat.zero_le _) (Nat.zero_le _) (C_X2_sumOf hC5.lg hC5.fa hC5.ne (F := factW w j (x : Int) hr hu gr) (w := w) hF5 hok hC5.lo hC5.lw (vb := 0) (fun h12 hx12 => konI ?_))
  have hO12 := hO5.tr (hx12.mono (fun q hq => Or.inr hq))
  have hC12 := hC.off hO12
  have hF12 : ∀ k, k < 10 → h12 (c + 1) k = factW w j (x : Int) hr hu gr k := fun k hk => by rw [hx12 _ hC.ne]; exact hF5 k hk
  have hs12 := sumW_rng (F := factW w j (x : Int) hr hu gr) hC.lo (0)
  refine addV dX1_weigh_43 (wid (by omega) (by omega)) ?_
  refine iL5 dX1_weigh_44 ?_
  refine subV dX1_weigh_46 (wid (by omega) (by omega)) ?_
  refine aL0 dX1_weigh_47 ?_
  refine R_getR dX1_weigh_48 fX1_21.r hC.ct rfl ?_
  refine R_sipush dX1_weigh_51 (by decide) ?_
  refine aL0 dX1_weigh_54 ?_
  refine R_getR dX1_weigh_55 fX1_11.r hC.ct rfl ?_
  refine invV2 rfl dX1_weigh_58 kX1_54 hC.lg.o (Nat.le_of_ble_eq_true rfl) (Nat.zero_le _) (Nat.zero_le _) (C_X2_sumOf hC12.lg hC12.fa hC12.ne (F := factW w j (x : Int) hr hu gr) (w := w) hF12 hok hC12.lo hC12.lw (vb := 1) (fun h13 hx13 => konI ?_))
  have hO13 := hO12.tr (hx13.mono (fun q hq => Or.inr hq))
  have hC13 := hC.off hO13
  have hF13 : ∀ k, k < 10 → h13 (c + 1) k = factW w j (x : Int) hr hu gr k := fun k hk => by rw [hx13 _ hC.ne]; exact hF12 k hk
  have hs13 := sumW_rng (F := factW w j (x : Int) hr hu gr) hC.lo (1)
  refine subV dX1_weigh_61 (wid (by omega) (by omega)) ?_
  exact R_iret dX1_weigh_62 rfl (K _ hO13)
set_option maxHeartbeats 400000 in
theorem C_X1_crumbsOf {d : Nat} {g : Gs} {h : Hc} {P : Po} {c t r : Nat} {w : Nat → Int} (hC : Ct g h c t r w) {j : Nat} {x : Int} (hj : j < 5) (hx1 : -1 ≤ x) (hx2 : x < w 1) (K : ∀ h', Off (scr c r) h h' → P (.inl (some (vI (crW w j x)))) g h') : Call (d + 2) 0 0 mX1_crumbsOf [vR c, vI ((j : Nat) : Int), vI x] g h P := by
  have hcs := hC.wf.cas
  have hho := hC.wf.hou
  refine Call_of rfl ⟨by decide +kernel, rfl⟩ (Nat.le_of_ble_eq_true rfl) rfl ?_
  have hO0 : Off (scr c r) h h := Off.rf _ _
  refine aL0 dX1_crumbsOf_0 ?_
  refine iL1 dX1_crumbsOf_1 ?_
  refine iL2 dX1_crumbsOf_2 ?_
  refine aL0 dX1_crumbsOf_3 ?_
  refine R_getR dX1_crumbsOf_4 fX1_17.r hC.ct rfl ?_
  refine R_getI dX1_crumbsOf_7 fX1_58.r hC.tg.o ?_
  refine topV (v := w 4) (hC.tw.s3) ?_
  have hq11 := hC.wf.hou
  refine aL0 dX1_crumbsOf_10 ?_
  refine R_getR dX1_crumbsOf_11 fX1_17.r hC.ct rfl ?_
  refine R_getR dX1_crumbsOf_14 fX1_62 hC.tg.o rfl ?_
  refine iL1 dX1_crumbsOf_17 ?_
  refine ialdN dX1_crumbsOf_18 hC.tg.a1 rfl (by omega) ?_
  refine topV (v := w (80 + 4 * j)) (hC.tw.a1 (by omega)) ?_
  have hq12 := hC.wf.hu (j := j) (by omega)
  refine invV4 rfl dX1_crumbsOf_19 kX1_47 hC.ct (Nat.le_of_ble_eq_true rfl) (Nat.zero_le _) (Nat.zero_le _) (C_X1_tellFacts hC hj hx1 hx2 (fun h1 hx1 hF1 => konV ?_))
  have hO1 := hO0.tr (hx1.mono (fun q hq => Or.inl hq))
  have hC1 := hC.off hO1
  have hok := okF_fact hC.wf hj (c := x) (hr := w 4) (hu := w (80 + 4 * j)) (gr := w (101 + 7 * x.toNat)) (by omega) (by omega) (by omega) (hC.wf.gr (by omega))
  refine aL0 dX1_crumbsOf_22 ?_
  refine R_getR dX1_crumbsOf_23 fX1_17.r hC.ct rfl ?_
  refine R_getR dX1_crumbsOf_26 fX1_65 hC.tg.o rfl ?_
  refine aL0 dX1_crumbsOf_29 ?_
  refine R_getR dX1_crumbsOf_30 fX1_17.r hC.ct rfl ?_
  refine R_getI dX1_crumbsOf_33 fX1_58.r hC.tg.o ?_
  refine topV (v := w 4) (hC1.tw.s3) ?_
  have hq13 := hC.wf.hou
  refine topV (v := (((w 4).toNat : Nat) : Int)) (by omega) ?_
  refine ialdN dX1_crumbsOf_36 hC.tg.a13 rfl (by omega) ?_
  refine topV (v := w (8 + ((w 4).toNat))) (hC1.tw.a13 (by omega)) ?_
  have hq14 := hC.wf.inn ((w 4).toNat) (by omega)
  refine aL0 dX1_crumbsOf_37 ?_
  refine R_getR dX1_crumbsOf_38 fX1_21.r hC.ct rfl ?_
  refine R_sipush dX1_crumbsOf_41 (by decide) ?_
  refine aL0 dX1_crumbsOf_44 ?_
  refine R_getR dX1_crumbsOf_45 fX1_11.r hC.ct rfl ?_
  refine invV2 rfl dX1_crumbsOf_48 kX1_54 hC.lg.o (Nat.le_of_ble_eq_true rfl) (Nat.zero_le _) (Nat.zero_le _) (C_X2_sumOf hC1.lg hC1.fa hC1.ne (F := factW w j x (w 4) (w (80 + 4 * j)) (w (101 + 7 * x.toNat))) (w := w) hF1 hok hC1.lo hC1.lw (vb := 2) (fun h15 hx15 => konI ?_))
  have hO15 := hO1.tr (hx15.mono (fun q hq => Or.inr hq))
  have hC15 := hC.off hO15
  have hF15 : ∀ k, k < 10 → h15 (c + 1) k = factW w j x (w 4) (w (80 + 4 * j)) (w (101 + 7 * x.toNat)) k := fun k hk => by rw [hx15 _ hC.ne]; exact hF1 k hk
  have hs15 := sumW_rng (F := factW w j x (w 4) (w (80 + 4 * j)) (w (101 + 7 * x.toNat))) hC.lo (2)
  refine addV dX1_crumbsOf_51 (wid (by omega) (by omega)) ?_
  refine R_bipush dX1_crumbsOf_52 (by decide) ?_
  refine aL0 dX1_crumbsOf_54 ?_
  refine R_getR dX1_crumbsOf_55 fX1_17.r hC.ct rfl ?_
  refine R_getR dX1_crumbsOf_58 fX1_32 hC.tg.o rfl ?_
  refine iL1 dX1_crumbsOf_61 ?_
  refine ialdN dX1_crumbsOf_62 hC.tg.a3 rfl (by omega) ?_
  refine topV (v := w (82 + 4 * j)) (hC15.tw.a3 (by omega)) ?_
  have hq16 := hC.wf.nv (j := j) (by omega)
  refine mulV dX1_crumbsOf_63 (wid (by omega) (by omega)) ?_
  refine subV dX1_crumbsOf_64 (wid (by omega) (by omega)) ?_
  refine iS3 dX1_crumbsOf_65 ?_
  refine R_iconst_0 dX1_crumbsOf_66 ?_
  refine iL3 dX1_crumbsOf_67 ?_
  refine R_mmax dX1_crumbsOf_68 kX1_68 lb_max (Nat.le_of_ble_eq_true rfl) ?_
  exact R_iret dX1_crumbsOf_71 rfl (K _ hO15)
set_option maxHeartbeats 400000 in
theorem C_X1_pointOf {d : Nat} {g : Gs} {h : Hc} {P : Po} {c t r : Nat} {w : Nat → Int} (hC : Ct g h c t r w) {j x : Nat} (hj : j < 5) (hx : (x : Int) < w 1) {hr : Int} (hb1 : 0 ≤ hr ∧ hr ≤ 99) (K : ∀ h', Off (scr c r) h h' → P (.inl (some (vI (pt0 w j x hr)))) g h') : Call (d + 3) 0 0 mX1_pointOf [vR c, vI ((j : Nat) : Int), vI ((x : Nat) : Int), vI hr] g h P := by
  have hcs := hC.wf.cas
  have hho := hC.wf.hou
  have hjd := hC.wf.jud
  refine Call_of rfl ⟨by decide +kernel, rfl⟩ (Nat.le_of_ble_eq_true rfl) rfl ?_
  have hO0 : Off (scr c r) h h := Off.rf _ _
  refine aL0 dX1_pointOf_0 ?_
  refine iL1 dX1_pointOf_1 ?_
  refine iL2 dX1_pointOf_2 ?_
  refine iL3 dX1_pointOf_3 ?_
  refine aL0 dX1_pointOf_4 ?_
  refine R_getR dX1_pointOf_5 fX1_17.r hC.ct rfl ?_
  refine R_getR dX1_pointOf_8 fX1_62 hC.tg.o rfl ?_
  refine iL1 dX1_pointOf_11 ?_
  refine ialdN dX1_pointOf_12 hC.tg.a1 rfl (by omega) ?_
  refine topV (v := w (80 + 4 * j)) (hC.tw.a1 (by omega)) ?_
  have hq1 := hC.wf.hu (j := j) (by omega)
  refine aL0 dX1_pointOf_13 ?_
  refine R_getR dX1_pointOf_14 fX1_17.r hC.ct rfl ?_
  refine R_getR dX1_pointOf_17 fX1_38 hC.tg.o rfl ?_
  refine iL2 dX1_pointOf_20 ?_
  refine ialdN dX1_pointOf_21 hC.tg.a6 rfl (by omega) ?_
  refine topV (v := w (101 + 7 * x)) (hC.tw.a6 (by omega)) ?_
  have hq2 := hC.wf.gr (c := x) (by omega)
  refine invV5 rfl dX1_pointOf_22 kX1_74 hC.ct (Nat.le_of_ble_eq_true rfl) (Nat.zero_le _) (Nat.zero_le _) (C_X1_weigh hC (by omega) (by omega) (hr := hr) (hu := w (80 + 4 * j)) (gr := w (101 + 7 * x)) (by omega) (by omega) (by omega) (fun h3 hx3 => konI ?_))
  have hO3 := hO0.tr hx3
  have hC3 := hC.off hO3
  refine topV (v := pt0 w j x hr) rfl ?_
  exact R_iret dX1_pointOf_25 rfl (K _ hO3)
set_option maxHeartbeats 400000 in
theorem C_X1_wouldBe {d : Nat} {g : Gs} {h : Hc} {P : Po} {c t r : Nat} {w : Nat → Int} (hC : Ct g h c t r w) {j x : Nat} (hj : j < 5) (hx : (x : Int) < w 1) {hr : Int} (hb1 : 0 ≤ hr ∧ hr ≤ 99) (K : ∀ h', Off (scr c r) h h' → P (.inl (some (vI (wdW w j x hr)))) g h') : Call (d + 3) 0 0 mX1_wouldBe [vR c, vI ((j : Nat) : Int), vI ((x : Nat) : Int), vI hr] g h P := by
  have hcs := hC.wf.cas
  have hho := hC.wf.hou
  have hjd := hC.wf.jud
  refine Call_of rfl ⟨by decide +kernel, rfl⟩ (Nat.le_of_ble_eq_true rfl) rfl ?_
  have hO0 : Off (scr c r) h h := Off.rf _ _
  refine R_iconst_0 dX1_wouldBe_0 ?_
  refine iL3 dX1_wouldBe_1 ?_
  refine aL0 dX1_wouldBe_2 ?_
  refine R_getR dX1_wouldBe_3 fX1_17.r hC.ct rfl ?_
  refine R_getI dX1_wouldBe_6 fX1_58.r hC.tg.o ?_
  refine topV (v := w 4) (hC.tw.s3) ?_
  have hq1 := hC.wf.hou
  refine subV dX1_wouldBe_9 (wid (by omega) (by omega)) ?_
  refine R_mmax dX1_wouldBe_10 kX1_68 lb_max (Nat.le_of_ble_eq_true rfl) ?_
  refine topV (v := latW w hr) (rfl) ?_
  have hlt := latW_rng hC.wf (hr := hr) (by omega)
  refine iS4 dX1_wouldBe_13 ?_
  refine R_bipush dX1_wouldBe_15 (by decide) ?_
  refine aL0 dX1_wouldBe_17 ?_
  refine R_getR dX1_wouldBe_18 fX1_17.r hC.ct rfl ?_
  refine R_getR dX1_wouldBe_21 fX1_62 hC.tg.o rfl ?_
  refine iL1 dX1_wouldBe_24 ?_
  refine ialdN dX1_wouldBe_25 hC.tg.a1 rfl (by omega) ?_
  refine topV (v := w (80 + 4 * j)) (hC.tw.a1 (by omega)) ?_
  have hq2 := hC.wf.hu (j := j) (by omega)
  refine iL4 dX1_wouldBe_26 ?_
  refine addV dX1_wouldBe_28 (wid (by omega) (by omega)) ?_
  refine R_mmin dX1_wouldBe_29 kX1_78 lb_min (Nat.le_of_ble_eq_true rfl) ?_
  refine topV (v := mn99 (w (80 + 4 * j) + latW w hr)) (rfl) ?_
  have hmn := mn99_rng (x := w (80 + 4 * j) + latW w hr) (by omega)
  refine iS5 dX1_wouldBe_32 ?_
  refine aL0 dX1_wouldBe_34 ?_
  refine iL1 dX1_wouldBe_35 ?_
  refine iL2 dX1_wouldBe_36 ?_
  refine iL3 dX1_wouldBe_37 ?_
  refine iL5 dX1_wouldBe_38 ?_
  refine aL0 dX1_wouldBe_40 ?_
  refine R_getR dX1_wouldBe_41 fX1_17.r hC.ct rfl ?_
  refine R_getR dX1_wouldBe_44 fX1_38 hC.tg.o rfl ?_
  refine iL2 dX1_wouldBe_47 ?_
  refine ialdN dX1_wouldBe_48 hC.tg.a6 rfl (by omega) ?_
  refine topV (v := w (101 + 7 * x)) (hC.tw.a6 (by omega)) ?_
  have hq3 := hC.wf.gr (c := x) (by omega)
  refine invV5 rfl dX1_wouldBe_49 kX1_74 hC.ct (Nat.le_of_ble_eq_true rfl) (Nat.zero_le _) (Nat.zero_le _) (C_X1_weigh hC (by omega) (by omega) (hr := hr) (hu := mn99 (w (80 + 4 * j) + latW w hr)) (gr := w (101 + 7 * x)) (by omega) (by omega) (by omega) (fun h4 hx4 => konI ?_))
  have hO4 := hO0.tr hx4
  have hC4 := hC.off hO4
  refine topV (v := wdW w j x hr) rfl ?_
  exact R_iret dX1_wouldBe_52 rfl (K _ hO4)
set_option maxHeartbeats 400000 in
theorem C_X1_freesNow {d : Nat} {g : Gs} {h : Hc} {P : Po} {c t r : Nat} {w : Nat → Int} (hC : Ct g h c t r w) {j x : Nat} (hj : j < 5) (hx : (x : Int) < w 1) (K : ∀ h', Off (scr c r) h h' → P (.inl (some (vI (bI (frN w x j))))) g h') : Call (d + 3) 0 0 mX1_freesNow [vR c, vI ((j : Nat) : Int), vI ((x : Nat) : Int)] g h P := by
  have hcs := hC.wf.cas
  have hho := hC.wf.hou
  have hjd := hC.wf.jud
  refine Call_of rfl ⟨by decide +kernel, rfl⟩ (Nat.le_of_ble_eq_true rfl) rfl ?_
  have hO0 : Off (scr c r) h h := Off.rf _ _
  refine aL0 dX1_freesNow_0 ?_
  refine iL1 dX1_freesNow_1 ?_
  refine iL2 dX1_freesNow_2 ?_
  refine aL0 dX1_freesNow_3 ?_
  refine R_getR dX1_freesNow_4 fX1_17.r hC.ct rfl ?_
  refine R_getI dX1_freesNow_7 fX1_58.r hC.tg.o ?_
  refine topV (v := w 4) (hC.tw.s3) ?_
  have hq1 := hC.wf.hou
  refine aL0 dX1_freesNow_10 ?_
  refine R_getR dX1_freesNow_11 fX1_17.r hC.ct rfl ?_
  refine R_getR dX1_freesNow_14 fX1_62 hC.tg.o rfl ?_
  refine iL1 dX1_freesNow_17 ?_
  refine ialdN dX1_freesNow_18 hC.tg.a1 rfl (by omega) ?_
  refine topV (v := w (80 + 4 * j)) (hC.tw.a1 (by omega)) ?_
  have hq2 := hC.wf.hu (j := j) (by omega)
  refine aL0 dX1_freesNow_19 ?_
  refine R_getR dX1_freesNow_20 fX1_17.r hC.ct rfl ?_
  refine R_getR dX1_freesNow_23 fX1_38 hC.tg.o rfl ?_
  refine iL2 dX1_freesNow_26 ?_
  refine ialdN dX1_freesNow_27 hC.tg.a6 rfl (by omega) ?_
  refine topV (v := w (101 + 7 * x)) (hC.tw.a6 (by omega)) ?_
  have hq3 := hC.wf.gr (c := x) (by omega)
  refine invV5 rfl dX1_freesNow_28 kX1_74 hC.ct (Nat.le_of_ble_eq_true rfl) (Nat.zero_le _) (Nat.zero_le _) (C_X1_weigh hC (by omega) (by omega) (hr := w 4) (hu := w (80 + 4 * j)) (gr := w (101 + 7 * x)) (by omega) (by omega) (by omega) (fun h4 hx4 => konI ?_))
  have hO4 := hO0.tr hx4
  have hC4 := hC.off hO4
  refine topV (v := pt0 w j x (w 4)) rfl ?_
  refine R_if_lt dX1_freesNow_31 (fun hb31 => ?_) (fun hb31 => ?_)
  · refine R_iconst_0 dX1_freesNow_38 ?_
    exact R_zret dX1_freesNow_39 rfl (by decide) (PeqI (K _ hO4) (by first | (rw [bI_t (by simp [frN]; omega)]) | (rw [bI_f (by simp [frN]; omega)])))
  · refine R_iconst_1 dX1_freesNow_34 ?_
    refine R_goto dX1_freesNow_35 ?_
    exact R_zret dX1_freesNow_39 rfl (by decide) (PeqI (K _ hO4) (by first | (rw [bI_t (by simp [frN]; omega)]) | (rw [bI_f (by simp [frN]; omega)])))
set_option maxHeartbeats 400000 in
theorem C_X1_freeingNow {d : Nat} {g : Gs} {h : Hc} {P : Po} {c t r : Nat} {w : Nat → Int} (hC : Ct g h c t r w) {x : Nat} (hx : (x : Int) < w 1) (K : ∀ h', Off (scr c r) h h' → P (.inl (some (vI (((cntB (frN w x) (w 0).toNat : Nat) : Int))))) g h') : Call (d + 4) 0 0 mX1_freeingNow [vR c, vI ((x : Nat) : Int)] g h P := by
  have hcs := hC.wf.cas
  have hho := hC.wf.hou
  have hjd := hC.wf.jud
  refine Call_of rfl ⟨by decide +kernel, rfl⟩ (Nat.le_of_ble_eq_true rfl) rfl ?_
  have hO0 : Off (scr c r) h h := Off.rf _ _
  refine R_iconst_0 dX1_freeingNow_0 ?_
  refine iS2 dX1_freeingNow_1 ?_
  refine R_iconst_0 dX1_freeingNow_2 ?_
  refine iS3 dX1_freeingNow_3 ?_
  refine loopN ((w 0).toNat) (fun q => ∀ hK1 : Hc, Off (scr c r) h hK1 → Run (d + 4) 0 0 mX1_freeingNow 4 [vR c, vI ((x : Nat) : Int), vI ((cntB (frN w x) q : Nat) : Int), vI ((q : Nat) : Int)] [] g hK1 P) (fun q hcnq ihq hK1 hOK1 => ?_) (0) (Nat.zero_le _) _ hO0
  have hCK1 := hC.off hOK1
  have hcl := cntB_le (frN w x) q
  refine iL3 dX1_freeingNow_4 ?_
  refine aL0 dX1_freeingNow_5 ?_
  refine R_getR dX1_freeingNow_6 fX1_17.r hC.ct rfl ?_
  refine R_getI dX1_freeingNow_9 fX1_81.r hC.tg.o ?_
  refine topV (v := w 0) (hCK1.tw.s0) ?_
  have hq2 := hC.wf.jud
  refine R_icmp_ge dX1_freeingNow_12 (fun hb12 => ?_) (fun hb12 => ?_)
  · have e9 : q = (w 0).toNat := by omega
    subst e9
    refine iL2 dX1_freeingNow_33 ?_
    exact R_iret dX1_freeingNow_34 rfl (K _ hOK1)
  · refine aL0 dX1_freeingNow_15 ?_
    refine iL3 dX1_freeingNow_16 ?_
    refine iL1 dX1_freeingNow_17 ?_
    refine invV2 rfl dX1_freeingNow_18 kX1_84 hC.ct (Nat.le_of_ble_eq_true rfl) (Nat.zero_le _) (Nat.zero_le _) (C_X1_freesNow hCK1 (by omega) (by omega) (fun h3 hx3 => konI ?_))
    have hO3 := hOK1.tr hx3
    have hC3 := hC.off hO3
    refine R_ifB_eq dX1_freeingNow_21 (fun hb21 => ?_) (fun hb21 => ?_)
    · refine iInc3 dX1_freeingNow_27 (winc (by omega)) ?_
      refine R_goto dX1_freeingNow_30 ?_
      exact eqI2 (by first | (rw [cntB_f hb21]; done) | (rw [cntB_t hb21]; done) | (rw [cntB_t hb21]; omega)) (ihq (by omega) _ hO3)
    · refine iInc2 dX1_freeingNow_24 (winc (by omega)) ?_
      refine iInc3 dX1_freeingNow_27 (winc (by omega)) ?_
      refine R_goto dX1_freeingNow_30 ?_
      exact eqI2 (by first | (rw [cntB_f hb21]; done) | (rw [cntB_t hb21]; done) | (rw [cntB_t hb21]; omega)) (ihq (by omega) _ hO3)
set_option maxHeartbeats 400000 in
theorem C_X1_harshness {d : Nat} {g : Gs} {h : Hc} {P : Po} {c t r : Nat} {w : Nat → Int} (hC : Ct g h c t r w) {j : Nat} (hj : j < 5) (K : ∀ h', Off (scr c r) h h' → P (.inl (some (vI (((cntB (harP w j) (w 1).toNat : Nat) : Int))))) g h') : Call (d + 4) 0 0 mX1_harshness [vR c, vI ((j : Nat) : Int)] g h P := by
  have hcs := hC.wf.cas
  have hho := hC.wf.hou
  have hjd := hC.wf.jud
  refine Call_of rfl ⟨by decide +kernel, rfl⟩ (Nat.le_of_ble_eq_true rfl) rfl ?_
  have hO0 : Off (scr c r) h h := Off.rf _ _
  refine R_iconst_0 dX1_harshness_0 ?_
  refine iS2 dX1_harshness_1 ?_
  refine R_iconst_0 dX1_harshness_2 ?_
  refine iS3 dX1_harshness_3 ?_
  refine loopN ((w 1).toNat) (fun q => ∀ hK1 : Hc, Off (scr c r) h hK1 → Run (d + 4) 0 0 mX1_harshness 4 [vR c, vI ((j : Nat) : Int), vI ((cntB (harP w j) q : Nat) : Int), vI ((q : Nat) : Int)] [] g hK1 P) (fun q hcnq ihq hK1 hOK1 => ?_) (0) (Nat.zero_le _) _ hO0
  have hCK1 := hC.off hOK1
  have hcl := cntB_le (harP w j) q
  refine iL3 dX1_harshness_4 ?_
  refine aL0 dX1_harshness_5 ?_
  refine R_getR dX1_harshness_6 fX1_17.r hC.ct rfl ?_
  refine R_getI dX1_harshness_9 fX1_88.r hC.tg.o ?_
  refine topV (v := w 1) (hCK1.tw.s1) ?_
  have hq2 := hC.wf.cas
  refine R_icmp_ge dX1_harshness_12 (fun hb12 => ?_) (fun hb12 => ?_)
  · have e9 : q = (w 1).toNat := by omega
    subst e9
    refine iL2 dX1_harshness_45 ?_
    exact R_iret dX1_harshness_46 rfl (K _ hOK1)
  · refine aL0 dX1_harshness_15 ?_
    refine R_getR dX1_harshness_16 fX1_17.r hC.ct rfl ?_
    refine R_getR dX1_harshness_19 fX1_44 hC.tg.o rfl ?_
    refine iL3 dX1_harshness_22 ?_
    refine ialdN dX1_harshness_23 hC.tg.a9 rfl (by omega) ?_
    refine topV (v := w (104 + 7 * q)) (hCK1.tw.a9 (by omega)) ?_
    have hq3 := hC.wf.st (c := q) (by omega)
    refine R_if_ne dX1_harshness_24 (fun hb24 => ?_) (fun hb24 => ?_)
    · refine iInc3 dX1_harshness_39 (winc (by omega)) ?_
      refine R_goto dX1_harshness_42 ?_
      exact eqI2 (by first | (rw [cntB_f (by simp [harP]; first | omega | (intro; exact hb33))]; done) | (rw [cntB_t (by simp [harP]; exact ⟨by omega, hb33⟩)]; done) | (rw [cntB_t (by simp [harP]; exact ⟨by omega, hb33⟩)]; omega)) (ihq (by omega) _ hOK1)
    · refine aL0 dX1_harshness_27 ?_
      refine iL1 dX1_harshness_28 ?_
      refine iL3 dX1_harshness_29 ?_
      refine invV2 rfl dX1_harshness_30 kX1_84 hC.ct (Nat.le_of_ble_eq_true rfl) (Nat.zero_le _) (Nat.zero_le _) (C_X1_freesNow hCK1 (by omega) (by omega) (fun h4 hx4 => konI ?_))
      have hO4 := hOK1.tr hx4
      have hC4 := hC.off hO4
      refine R_ifB_ne dX1_harshness_33 (fun hb33 => ?_) (fun hb33 => ?_)
      · refine iInc3 dX1_harshness_39 (winc (by omega)) ?_
        refine R_goto dX1_harshness_42 ?_
        exact eqI2 (by first | (rw [cntB_f (by simp [harP]; first | omega | (intro; exact hb33))]; done) | (rw [cntB_t (by simp [harP]; exact ⟨by omega, hb33⟩)]; done) | (rw [cntB_t (by simp [harP]; exact ⟨by omega, hb33⟩)]; omega)) (ihq (by omega) _ hO4)
      · refine iInc2 dX1_harshness_36 (winc (by omega)) ?_
        refine iInc3 dX1_harshness_39 (winc (by omega)) ?_
        refine R_goto dX1_harshness_42 ?_
        exact eqI2 (by first | (rw [cntB_f (by simp [harP]; first | omega | (intro; exact hb33))]; done) | (rw [cntB_t (by simp [harP]; exact ⟨by omega, hb33⟩)]; done) | (rw [cntB_t (by simp [harP]; exact ⟨by omega, hb33⟩)]; omega)) (ihq (by omega) _ hO4)
set_option maxHeartbeats 400000 in
theorem C_X1_firstFreeing {d : Nat} {g : Gs} {h : Hc} {P : Po} {c t r : Nat} {w : Nat → Int} (hC : Ct g h c t r w) {j x : Nat} (hj : j < 5) (hx : (x : Int) < w 1) {f : Nat} (hfr : f ≤ 12) (K : ∀ h', Off (scr c r) h h' → P (.inl (some (vI (ff (wdP w j x) f 12)))) g h') : Call (d + 4) 0 0 mX1_firstFreeing [vR c, vI ((j : Nat) : Int), vI ((x : Nat) : Int), vI ((f : Nat) : Int)] g h P := by
  have hcs := hC.wf.cas
  have hho := hC.wf.hou
  have hjd := hC.wf.jud
  refine Call_of rfl ⟨by decide +kernel, rfl⟩ (Nat.le_of_ble_eq_true rfl) rfl ?_
  have hO0 : Off (scr c r) h h := Off.rf _ _
  refine iL3 dX1_firstFreeing_0 ?_
  refine iS4 dX1_firstFreeing_1 ?_
  refine loopN (12) (fun q => ff (wdP w j x) q 12 = ff (wdP w j x) f 12 → ∀ hK1 : Hc, Off (scr c r) h hK1 → Run (d + 4) 0 0 mX1_firstFreeing 3 [vR c, vI ((j : Nat) : Int), vI ((x : Nat) : Int), vI ((f : Nat) : Int), vI ((q : Nat) : Int)] [] g hK1 P) (fun q hcnq ihq hq9 hK1 hOK1 => ?_) (f) (by omega) rfl _ hO0
  have hCK1 := hC.off hOK1
  refine iL4 dX1_firstFreeing_3 ?_
  refine R_bipush dX1_firstFreeing_5 (by decide) ?_
  refine R_icmp_ge dX1_firstFreeing_7 (fun hb7 => ?_) (fun hb7 => ?_)
  · refine R_iconst_m1 dX1_firstFreeing_30 ?_
    exact R_iret dX1_firstFreeing_31 rfl (by have := K _ hOK1; rw [← hq9, ff_end (by omega)] at this; exact this)
  · refine aL0 dX1_firstFreeing_10 ?_
    refine iL1 dX1_firstFreeing_11 ?_
    refine iL2 dX1_firstFreeing_12 ?_
    refine iL4 dX1_firstFreeing_13 ?_
    refine invV3 rfl dX1_firstFreeing_15 kX1_91 hC.ct (Nat.le_of_ble_eq_true rfl) (Nat.zero_le _) (Nat.zero_le _) (C_X1_wouldBe hCK1 (by omega) (by omega) (by omega) (fun h2 hx2 => konI ?_))
    have hO2 := hOK1.tr hx2
    have hC2 := hC.off hO2
    refine R_if_lt dX1_firstFreeing_18 (fun hb18 => ?_) (fun hb18 => ?_)
    · refine iInc4 dX1_firstFreeing_24 (winc (by omega)) ?_
      refine R_goto dX1_firstFreeing_27 ?_
      exact ihq (by omega) (by rw [← ff_f (by omega) (by simp [wdP]; omega)]; exact hq9) _ hO2
    · refine iL4 dX1_firstFreeing_21 ?_
      exact R_iret dX1_firstFreeing_23 rfl (by have := K _ hO2; rw [← hq9, ff_t (by omega) (by simp [wdP]; omega)] at this; exact this)
theorem benF_s (w : Nat → Int) (c : Nat) (z : Int) (n : Nat) : benF w c z (n + 1) = benS w c n (benF w c z n) := rfl
set_option maxHeartbeats 400000 in
theorem C_X1_benchFor {d : Nat} {g : Gs} {h : Hc} {P : Po} {c t r : Nat} {w : Nat → Int} (hC : Ct g h c t r w) {x : Nat} (hx : (x : Int) < w 1) (K : ∀ h', Off (scr c r) h h' → P (.inl (some (vI ((benF w x 12 (w 0).toNat).1)))) g h') : Call (d + 5) 0 0 mX1_benchFor [vR c, vI ((x : Nat) : Int)] g h P := by
  have hcs := hC.wf.cas
  have hho := hC.wf.hou
  have hjd := hC.wf.jud
  refine Call_of rfl ⟨by decide +kernel, rfl⟩ (Nat.le_of_ble_eq_true rfl) rfl ?_
  have hO0 : Off (scr c r) h h := Off.rf _ _
  refine R_iconst_m1 dX1_benchFor_0 ?_
  refine iS2 dX1_benchFor_1 ?_
  refine R_bipush dX1_benchFor_2 (by decide) ?_
  refine iS3 dX1_benchFor_4 ?_
  refine R_iconst_0 dX1_benchFor_5 ?_
  refine iS4 dX1_benchFor_6 ?_
  refine loopN ((w 0).toNat) (fun q => ∀ v5 : AV, ∀ hK1 : Hc, Off (scr c r) h hK1 → Run (d + 5) 0 0 mX1_benchFor 8 [vR c, vI ((x : Nat) : Int), vI ((benF w x 12 q).1), vI ((benF w x 12 q).2), vI ((q : Nat) : Int), v5] [] g hK1 P) (fun q hcnq ihq v5 hK1 hOK1 => ?_) (0) (Nat.zero_le _) vU _ hO0
  have hCK1 := hC.off hOK1
  refine iL4 dX1_benchFor_8 ?_
  refine aL0 dX1_benchFor_10 ?_
  refine R_getR dX1_benchFor_11 fX1_17.r hC.ct rfl ?_
  refine R_getI dX1_benchFor_14 fX1_81.r hC.tg.o ?_
  refine topV (v := w 0) (hCK1.tw.s0) ?_
  have hq2 := hC.wf.jud
  refine R_icmp_ge dX1_benchFor_17 (fun hb17 => ?_) (fun hb17 => ?_)
  · have e9 : q = (w 0).toNat := by omega
    subst e9
    refine iL2 dX1_benchFor_59 ?_
    exact R_iret dX1_benchFor_60 rfl (K _ hOK1)
  · refine aL0 dX1_benchFor_20 ?_
    refine iL4 dX1_benchFor_21 ?_
    refine iL1 dX1_benchFor_23 ?_
    refine aL0 dX1_benchFor_24 ?_
    refine R_getR dX1_benchFor_25 fX1_17.r hC.ct rfl ?_
    refine R_getI dX1_benchFor_28 fX1_58.r hC.tg.o ?_
    refine topV (v := w 4) (hCK1.tw.s3) ?_
    have hq3 := hC.wf.hou
    refine topV (v := (((w 4).toNat : Nat) : Int)) (by omega) ?_
    refine invV3 rfl dX1_benchFor_31 kX1_95 hC.ct (Nat.le_of_ble_eq_true rfl) (Nat.zero_le _) (Nat.zero_le _) (C_X1_firstFreeing hCK1 (by omega) (by omega) (by omega) (fun h4 hx4 => konI ?_))
    have hO4 := hOK1.tr hx4
    have hC4 := hC.off hO4
    refine iS5 dX1_benchFor_34 ?_
    refine iL5 dX1_benchFor_36 ?_
    refine R_if_lt dX1_benchFor_38 (fun hb38 => ?_) (fun hb38 => ?_)
    · refine iInc4 dX1_benchFor_53 (winc (by omega)) ?_
      refine R_goto dX1_benchFor_56 ?_
      exact eqI2 (by rw [benF_s]; simp only [benS]; (repeat' split) <;> first | rfl | omega) (eqI3 (by rw [benF_s]; simp only [benS]; (repeat' split) <;> first | rfl | omega) (ihq (by omega) _ _ hO4))
    · refine iL5 dX1_benchFor_41 ?_
      refine iL3 dX1_benchFor_43 ?_
      refine R_icmp_ge dX1_benchFor_44 (fun hb44 => ?_) (fun hb44 => ?_)
      · refine iInc4 dX1_benchFor_53 (winc (by omega)) ?_
        refine R_goto dX1_benchFor_56 ?_
        exact eqI2 (by rw [benF_s]; simp only [benS]; (repeat' split) <;> first | rfl | omega) (eqI3 (by rw [benF_s]; simp only [benS]; (repeat' split) <;> first | rfl | omega) (ihq (by omega) _ _ hO4))
      · refine iL5 dX1_benchFor_47 ?_
        refine iS3 dX1_benchFor_49 ?_
        refine iL4 dX1_benchFor_50 ?_
        refine iS2 dX1_benchFor_52 ?_
        refine iInc4 dX1_benchFor_53 (winc (by omega)) ?_
        refine R_goto dX1_benchFor_56 ?_
        exact eqI2 (by rw [benF_s]; simp only [benS]; (repeat' split) <;> first | rfl | omega) (eqI3 (by rw [benF_s]; simp only [benS]; (repeat' split) <;> first | rfl | omega) (ihq (by omega) _ _ hO4))
theorem placeOf_rng (w : Nat → Int) (x : Int) : placeOf w x = -1 ∨ ∃ p : Nat, p < 60 ∧ placeOf w x = (p : Int) ∧ w (20 + p) = x ∧ ∀ q, q < p → w (20 + q) ≠ x := by
  rcases firstB_rng (placeP w x) 60 with h | ⟨k, h1, h2, h3, h4⟩
  · exact Or.inl h
  · exact Or.inr ⟨k, h1, h2, of_decide_eq_true h3, fun q hq => of_decide_eq_false (h4 q hq)⟩
theorem tmod_m1 : Int.tmod (-1) 12 = -1 := rfl
theorem place_jud {w : Nat → Int} (hf : WF w) {p : Nat} {x : Int} (hp : p < 60) (h : w (20 + p) = x) (hx : 0 ≤ x) : (p : Int) < 12 * w 0 := by
  by_cases q : 12 * w 0 ≤ p
  · have := hf.out p hp q
    omega
  · omega
set_option maxHeartbeats 400000 in
theorem C_X1_delayOf {d : Nat} {g : Gs} {h : Hc} {P : Po} {c t r : Nat} {w : Nat → Int} (hC : Ct g h c t r w) {x : Nat} (hx : (x : Int) < w 1) (K : ∀ h', Off (scr c r) h h' → P (.inl (some (vI (delW w x)))) g h') : Call (d + 5) 0 0 mX1_delayOf [vR c, vI ((x : Nat) : Int)] g h P := by
  have hcs := hC.wf.cas
  have hho := hC.wf.hou
  have hjd := hC.wf.jud
  refine Call_of rfl ⟨by decide +kernel, rfl⟩ (Nat.le_of_ble_eq_true rfl) rfl ?_
  have hO0 : Off (scr c r) h h := Off.rf _ _
  rcases placeOf_rng w (x : Int) with hp9 | ⟨p, hp1, hp2, hp3, -⟩
  · refine aL0 dX1_delayOf_0 ?_
    refine R_getR dX1_delayOf_1 fX1_17.r hC.ct rfl ?_
    refine iL1 dX1_delayOf_4 ?_
    refine invV1 rfl dX1_delayOf_5 kX1_98 hC.tg.o (Nat.le_of_ble_eq_true rfl) (Nat.zero_le _) (Nat.zero_le _) (C_X10_placeOf hC.tg hC.tw (konI ?_))
    refine topV (v := -1) (hp9) ?_
    refine iS2 dX1_delayOf_8 ?_
    refine iL2 dX1_delayOf_9 ?_
    refine R_bipush dX1_delayOf_10 (by decide) ?_
    refine R_irem dX1_delayOf_12 (by decide) ?_
    refine topV (v := -1) tmod_m1 ?_
    refine iS3 dX1_delayOf_13 ?_
    refine iL2 dX1_delayOf_14 ?_
    refine R_if_lt dX1_delayOf_15 (fun hb15 => ?_) (fun hb15 => ?_)
    · refine R_iconst_m1 dX1_delayOf_41 ?_
      exact R_iret dX1_delayOf_42 rfl (PeqI (K _ hO0) (by unfold delW; rw [if_pos (Or.inl (by omega))]))
    · exact absurd hb15 (by decide)
  · have hpj := place_jud hC.wf hp1 hp3 (by omega)
    refine aL0 dX1_delayOf_0 ?_
    refine R_getR dX1_delayOf_1 fX1_17.r hC.ct rfl ?_
    refine iL1 dX1_delayOf_4 ?_
    refine invV1 rfl dX1_delayOf_5 kX1_98 hC.tg.o (Nat.le_of_ble_eq_true rfl) (Nat.zero_le _) (Nat.zero_le _) (C_X10_placeOf hC.tg hC.tw (konI ?_))
    refine topV (v := ((p : Nat) : Int)) (hp2) ?_
    refine iS2 dX1_delayOf_8 ?_
    refine iL2 dX1_delayOf_9 ?_
    refine R_bipush dX1_delayOf_10 (by decide) ?_
    refine remV dX1_delayOf_12 (by decide) (v := ((p % 12 : Nat) : Int)) (remN (k := 12) (by omega) (by decide)) ?_
    refine iS3 dX1_delayOf_13 ?_
    refine iL2 dX1_delayOf_14 ?_
    refine R_if_lt dX1_delayOf_15 (fun hb15 => ?_) (fun hb15 => ?_)
    · exfalso; omega
    · refine iL3 dX1_delayOf_18 ?_
      refine aL0 dX1_delayOf_19 ?_
      refine R_getR dX1_delayOf_20 fX1_17.r hC.ct rfl ?_
      refine R_getI dX1_delayOf_23 fX1_58.r hC.tg.o ?_
      refine topV (v := w 4) (hC.tw.s3) ?_
      have hq1 := hC.wf.hou
      refine R_icmp_lt dX1_delayOf_26 (fun hb26 => ?_) (fun hb26 => ?_)
      · refine R_iconst_m1 dX1_delayOf_41 ?_
        exact R_iret dX1_delayOf_42 rfl (PeqI (K _ hO0) (by unfold delW; rw [if_pos (by rw [hp2]; omega)]))
      · refine aL0 dX1_delayOf_29 ?_
        refine R_getR dX1_delayOf_30 fX1_17.r hC.ct rfl ?_
        refine R_getR dX1_delayOf_33 fX1_44 hC.tg.o rfl ?_
        refine iL1 dX1_delayOf_36 ?_
        refine ialdN dX1_delayOf_37 hC.tg.a9 rfl (by omega) ?_
        refine topV (v := w (104 + 7 * x)) (hC.tw.a9 (by omega)) ?_
        have hq2 := hC.wf.st (c := x) (by omega)
        refine R_if_eq dX1_delayOf_38 (fun hb38 => ?_) (fun hb38 => ?_)
        · refine aL0 dX1_delayOf_43 ?_
          refine iL2 dX1_delayOf_44 ?_
          refine R_bipush dX1_delayOf_45 (by decide) ?_
          refine divV dX1_delayOf_47 (by decide) (v := ((p / 12 : Nat) : Int)) (divN (k := 12) (by omega) (by decide)) ?_
          refine iL1 dX1_delayOf_48 ?_
          refine iL3 dX1_delayOf_49 ?_
          refine invV3 rfl dX1_delayOf_50 kX1_95 hC.ct (Nat.le_of_ble_eq_true rfl) (Nat.zero_le _) (Nat.zero_le _) (C_X1_firstFreeing hC (by omega) (by omega) (by omega) (fun h3 hx3 => konI ?_))
          have hO3 := hO0.tr hx3
          have hC3 := hC.off hO3
          have hfr := ff_rng (p := wdP w (p / 12) x) (n := 12) (k := p % 12) rfl
          refine iS4 dX1_delayOf_53 ?_
          refine iL4 dX1_delayOf_55 ?_
          refine R_if_ge dX1_delayOf_57 (fun hb57 => ?_) (fun hb57 => ?_)
          · refine iL4 dX1_delayOf_64 ?_
            refine iL3 dX1_delayOf_66 ?_
            refine subV dX1_delayOf_67 (wid (by omega) (by omega)) ?_
            exact R_iret dX1_delayOf_68 rfl (PeqI (K _ hO3) (by unfold delW; rw [if_neg (by rw [hp2]; omega), show (placeOf w (x : Int) / 12).toNat = p / 12 by omega, show (placeOf w (x : Int) % 12).toNat = p % 12 by omega]; (repeat' split) <;> omega))
          · refine R_iconst_m1 dX1_delayOf_60 ?_
            refine R_goto dX1_delayOf_61 ?_
            exact R_iret dX1_delayOf_68 rfl (PeqI (K _ hO3) (by unfold delW; rw [if_neg (by rw [hp2]; omega), show (placeOf w (x : Int) / 12).toNat = p / 12 by omega, show (placeOf w (x : Int) % 12).toNat = p % 12 by omega]; (repeat' split) <;> omega))
        · refine R_iconst_m1 dX1_delayOf_41 ?_
          exact R_iret dX1_delayOf_42 rfl (PeqI (K _ hO0) (by unfold delW; rw [if_pos (by rw [hp2]; omega)]))
theorem aplF_s (w : Nat → Int) (n : Nat) : aplF w (n + 1) = aplS w n (aplF w n) := rfl
set_option maxHeartbeats 400000 in
theorem C_X1_bestAppeal {d : Nat} {g : Gs} {h : Hc} {P : Po} {c t r : Nat} {w : Nat → Int} (hC : Ct g h c t r w) (K : ∀ h', Off (scr c r) h h' → P (.inl (some (vI ((aplF w (w 1).toNat).1)))) g h') : Call (d + 5) 0 0 mX1_bestAppeal [vR c] g h P := by
  have hcs := hC.wf.cas
  have hho := hC.wf.hou
  have hjd := hC.wf.jud
  refine Call_of rfl ⟨by decide +kernel, rfl⟩ (Nat.le_of_ble_eq_true rfl) rfl ?_
  have hO0 : Off (scr c r) h h := Off.rf _ _
  refine R_iconst_m1 dX1_bestAppeal_0 ?_
  refine iS1 dX1_bestAppeal_1 ?_
  refine R_iconst_0 dX1_bestAppeal_2 ?_
  refine iS2 dX1_bestAppeal_3 ?_
  refine R_iconst_0 dX1_bestAppeal_4 ?_
  refine iS3 dX1_bestAppeal_5 ?_
  refine loopN ((w 1).toNat) (fun q => ∀ v4 v5 : AV, ∀ hK1 : Hc, Off (scr c r) h hK1 → Run (d + 5) 0 0 mX1_bestAppeal 6 [vR c, vI ((aplF w q).1), vI ((aplF w q).2), vI ((q : Nat) : Int), v4, v5] [] g hK1 P) (fun q hcnq ihq v4 v5 hK1 hOK1 => ?_) (0) (Nat.zero_le _) vU vU _ hO0
  have hCK1 := hC.off hOK1
  refine iL3 dX1_bestAppeal_6 ?_
  refine aL0 dX1_bestAppeal_7 ?_
  refine R_getR dX1_bestAppeal_8 fX1_17.r hC.ct rfl ?_
  refine R_getI dX1_bestAppeal_11 fX1_88.r hC.tg.o ?_
  refine topV (v := w 1) (hCK1.tw.s1) ?_
  have hq2 := hC.wf.cas
  refine R_icmp_ge dX1_bestAppeal_14 (fun hb14 => ?_) (fun hb14 => ?_)
  · have e9 : q = (w 1).toNat := by omega
    subst e9
    refine iL1 dX1_bestAppeal_108 ?_
    exact R_iret dX1_bestAppeal_109 rfl (K _ hOK1)
  · suffices J3 : Run (d + 5) 0 0 mX1_bestAppeal 48 [vR c, vI ((aplF w q).1), vI ((aplF w q).2), vI ((q : Nat) : Int), v4, v5] [vI (bI (lostB w q))] g hK1 P by
      refine aL0 dX1_bestAppeal_17 ?_
      refine R_getR dX1_bestAppeal_18 fX1_17.r hC.ct rfl ?_
      refine R_getR dX1_bestAppeal_21 fX1_44 hC.tg.o rfl ?_
      refine iL3 dX1_bestAppeal_24 ?_
      refine ialdN dX1_bestAppeal_25 hC.tg.a9 rfl (by omega) ?_
      refine topV (v := w (104 + 7 * q)) (hCK1.tw.a9 (by omega)) ?_
      have hq4 := hC.wf.st (c := q) (by omega)
      refine R_iconst_2 dX1_bestAppeal_26 ?_
      refine R_icmp_eq dX1_bestAppeal_27 (fun hb27 => ?_) (fun hb27 => ?_)
      · refine R_iconst_1 dX1_bestAppeal_43 ?_
        refine R_goto dX1_bestAppeal_44 ?_
        exact topV (v := bI (lostB w q)) (by first | (rw [bI_t (by simp [lostB]; omega)]) | (rw [bI_f (by simp [lostB]; omega)])) J3
      · refine aL0 dX1_bestAppeal_30 ?_
        refine R_getR dX1_bestAppeal_31 fX1_17.r hC.ct rfl ?_
        refine R_getR dX1_bestAppeal_34 fX1_44 hC.tg.o rfl ?_
        refine iL3 dX1_bestAppeal_37 ?_
        refine ialdN dX1_bestAppeal_38 hC.tg.a9 rfl (by omega) ?_
        refine topV (v := w (104 + 7 * q)) (hCK1.tw.a9 (by omega)) ?_
        have hq5 := hC.wf.st (c := q) (by omega)
        refine R_iconst_3 dX1_bestAppeal_39 ?_
        refine R_icmp_ne dX1_bestAppeal_40 (fun hb40 => ?_) (fun hb40 => ?_)
        · refine R_iconst_0 dX1_bestAppeal_47 ?_
          exact topV (v := bI (lostB w q)) (by first | (rw [bI_t (by simp [lostB]; omega)]) | (rw [bI_f (by simp [lostB]; omega)])) J3
        · refine R_iconst_1 dX1_bestAppeal_43 ?_
          refine R_goto dX1_bestAppeal_44 ?_
          exact topV (v := bI (lostB w q)) (by first | (rw [bI_t (by simp [lostB]; omega)]) | (rw [bI_f (by simp [lostB]; omega)])) J3
    refine iS4 dX1_bestAppeal_48 ?_
    refine aL0 dX1_bestAppeal_50 ?_
    refine R_getR dX1_bestAppeal_51 fX1_17.r hC.ct rfl ?_
    refine R_getR dX1_bestAppeal_54 fX1_41 hC.tg.o rfl ?_
    refine iL3 dX1_bestAppeal_57 ?_
    refine ialdN dX1_bestAppeal_58 hC.tg.a7 rfl (by omega) ?_
    refine topV (v := w (102 + 7 * q)) (hCK1.tw.a7 (by omega)) ?_
    have hq6 := hC.wf.wo (c := q) (by omega)
    refine aL0 dX1_bestAppeal_59 ?_
    refine R_getR dX1_bestAppeal_60 fX1_17.r hC.ct rfl ?_
    refine R_getR dX1_bestAppeal_63 fX1_38 hC.tg.o rfl ?_
    refine iL3 dX1_bestAppeal_66 ?_
    refine ialdN dX1_bestAppeal_67 hC.tg.a6 rfl (by omega) ?_
    refine topV (v := w (101 + 7 * q)) (hCK1.tw.a6 (by omega)) ?_
    have hq7 := hC.wf.gr (c := q) (by omega)
    refine R_bipush dX1_bestAppeal_68 (by decide) ?_
    refine divV dX1_bestAppeal_70 (by decide) (divI (by omega) (by omega) (by omega)) ?_
    refine subV dX1_bestAppeal_71 (wid (by omega) (by omega)) ?_
    refine topV (v := gainW w q) (rfl) ?_
    refine iS5 dX1_bestAppeal_72 ?_
    refine iL4 dX1_bestAppeal_74 ?_
    refine R_ifB_eq dX1_bestAppeal_76 (fun hb76 => ?_) (fun hb76 => ?_)
    · refine iInc3 dX1_bestAppeal_102 (winc (by omega)) ?_
      refine R_goto dX1_bestAppeal_105 ?_
      exact eqI1 (by rw [aplF_s]; simp only [aplS, hb76, true_and, false_and, if_false, Bool.false_eq_true] <;> (repeat' split) <;> first | rfl | omega) (eqI2 (by rw [aplF_s]; simp only [aplS, hb76, true_and, false_and, if_false, Bool.false_eq_true] <;> (repeat' split) <;> first | rfl | omega) (ihq (by omega) _ _ _ hOK1))
    · refine iL1 dX1_bestAppeal_79 ?_
      refine R_if_lt dX1_bestAppeal_80 (fun hb80 => ?_) (fun hb80 => ?_)
      · refine aL0 dX1_bestAppeal_89 ?_
        refine iL3 dX1_bestAppeal_90 ?_
        refine invV1 rfl dX1_bestAppeal_91 kX1_102 hC.ct (Nat.le_of_ble_eq_true rfl) (Nat.zero_le _) (Nat.zero_le _) (C_X1_freeingNow hCK1 (by omega) (fun h8 hx8 => konI ?_))
        have hO8 := hOK1.tr hx8
        have hC8 := hC.off hO8
        refine R_if_le dX1_bestAppeal_94 (fun hb94 => ?_) (fun hb94 => ?_)
        · refine iInc3 dX1_bestAppeal_102 (winc (by omega)) ?_
          refine R_goto dX1_bestAppeal_105 ?_
          exact eqI1 (by rw [aplF_s]; simp only [aplS, hb76, true_and, false_and, if_false, Bool.false_eq_true] <;> (repeat' split) <;> first | rfl | omega) (eqI2 (by rw [aplF_s]; simp only [aplS, hb76, true_and, false_and, if_false, Bool.false_eq_true] <;> (repeat' split) <;> first | rfl | omega) (ihq (by omega) _ _ _ hO8))
        · refine iL3 dX1_bestAppeal_97 ?_
          refine iS1 dX1_bestAppeal_98 ?_
          refine iL5 dX1_bestAppeal_99 ?_
          refine iS2 dX1_bestAppeal_101 ?_
          refine iInc3 dX1_bestAppeal_102 (winc (by omega)) ?_
          refine R_goto dX1_bestAppeal_105 ?_
          exact eqI1 (by rw [aplF_s]; simp only [aplS, hb76, true_and, false_and, if_false, Bool.false_eq_true] <;> (repeat' split) <;> first | rfl | omega) (eqI2 (by rw [aplF_s]; simp only [aplS, hb76, true_and, false_and, if_false, Bool.false_eq_true] <;> (repeat' split) <;> first | rfl | omega) (ihq (by omega) _ _ _ hO8))
      · refine iL5 dX1_bestAppeal_83 ?_
        refine iL2 dX1_bestAppeal_85 ?_
        refine R_icmp_le dX1_bestAppeal_86 (fun hb86 => ?_) (fun hb86 => ?_)
        · refine iInc3 dX1_bestAppeal_102 (winc (by omega)) ?_
          refine R_goto dX1_bestAppeal_105 ?_
          exact eqI1 (by rw [aplF_s]; simp only [aplS, hb76, true_and, false_and, if_false, Bool.false_eq_true] <;> (repeat' split) <;> first | rfl | omega) (eqI2 (by rw [aplF_s]; simp only [aplS, hb76, true_and, false_and, if_false, Bool.false_eq_true] <;> (repeat' split) <;> first | rfl | omega) (ihq (by omega) _ _ _ hOK1))
        · refine aL0 dX1_bestAppeal_89 ?_
          refine iL3 dX1_bestAppeal_90 ?_
          refine invV1 rfl dX1_bestAppeal_91 kX1_102 hC.ct (Nat.le_of_ble_eq_true rfl) (Nat.zero_le _) (Nat.zero_le _) (C_X1_freeingNow hCK1 (by omega) (fun h9 hx9 => konI ?_))
          have hO9 := hOK1.tr hx9
          have hC9 := hC.off hO9
          refine R_if_le dX1_bestAppeal_94 (fun hb94 => ?_) (fun hb94 => ?_)
          · refine iInc3 dX1_bestAppeal_102 (winc (by omega)) ?_
            refine R_goto dX1_bestAppeal_105 ?_
            exact eqI1 (by rw [aplF_s]; simp only [aplS, hb76, true_and, false_and, if_false, Bool.false_eq_true] <;> (repeat' split) <;> first | rfl | omega) (eqI2 (by rw [aplF_s]; simp only [aplS, hb76, true_and, false_and, if_false, Bool.false_eq_true] <;> (repeat' split) <;> first | rfl | omega) (ihq (by omega) _ _ _ hO9))
          · refine iL3 dX1_bestAppeal_97 ?_
            refine iS1 dX1_bestAppeal_98 ?_
            refine iL5 dX1_bestAppeal_99 ?_
            refine iS2 dX1_bestAppeal_101 ?_
            refine iInc3 dX1_bestAppeal_102 (winc (by omega)) ?_
            refine R_goto dX1_bestAppeal_105 ?_
            exact eqI1 (by rw [aplF_s]; simp only [aplS, hb76, true_and, false_and, if_false, Bool.false_eq_true] <;> (repeat' split) <;> first | rfl | omega) (eqI2 (by rw [aplF_s]; simp only [aplS, hb76, true_and, false_and, if_false, Bool.false_eq_true] <;> (repeat' split) <;> first | rfl | omega) (ihq (by omega) _ _ _ hO9))
set_option maxHeartbeats 400000 in
theorem C_X1_movingHunger {d : Nat} {g : Gs} {h : Hc} {P : Po} {c t r : Nat} {w : Nat → Int} (hC : Ct g h c t r w) {j x : Nat} (hj : j < 5) (hx : (x : Int) < w 1) (K : ∀ h', Off (scr c r) h h' → P (.inl (some (vI (ff (movP w j x) 0 100)))) g h') : Call (d + 3) 0 0 mX1_movingHunger [vR c, vI ((j : Nat) : Int), vI ((x : Nat) : Int)] g h P := by
  have hcs := hC.wf.cas
  have hho := hC.wf.hou
  have hjd := hC.wf.jud
  refine Call_of rfl ⟨by decide +kernel, rfl⟩ (Nat.le_of_ble_eq_true rfl) rfl ?_
  have hO0 : Off (scr c r) h h := Off.rf _ _
  refine R_iconst_0 dX1_movingHunger_0 ?_
  refine iS3 dX1_movingHunger_1 ?_
  refine loopN (100) (fun q => ff (movP w j x) q 100 = ff (movP w j x) 0 100 → ∀ hK1 : Hc, Off (scr c r) h hK1 → Run (d + 3) 0 0 mX1_movingHunger 2 [vR c, vI ((j : Nat) : Int), vI ((x : Nat) : Int), vI ((q : Nat) : Int)] [] g hK1 P) (fun q hcnq ihq hq9 hK1 hOK1 => ?_) (0) (Nat.zero_le _) rfl _ hO0
  have hCK1 := hC.off hOK1
  refine iL3 dX1_movingHunger_2 ?_
  refine R_bipush dX1_movingHunger_3 (by decide) ?_
  refine R_icmp_gt dX1_movingHunger_5 (fun hb5 => ?_) (fun hb5 => ?_)
  · refine R_iconst_m1 dX1_movingHunger_42 ?_
    exact R_iret dX1_movingHunger_43 rfl (by have := K _ hOK1; rw [← hq9, ff_end (by omega)] at this; exact this)
  · refine aL0 dX1_movingHunger_8 ?_
    refine iL1 dX1_movingHunger_9 ?_
    refine iL2 dX1_movingHunger_10 ?_
    refine aL0 dX1_movingHunger_11 ?_
    refine R_getR dX1_movingHunger_12 fX1_17.r hC.ct rfl ?_
    refine R_getI dX1_movingHunger_15 fX1_58.r hC.tg.o ?_
    refine topV (v := w 4) (hCK1.tw.s3) ?_
    have hq2 := hC.wf.hou
    refine iL3 dX1_movingHunger_18 ?_
    refine aL0 dX1_movingHunger_19 ?_
    refine R_getR dX1_movingHunger_20 fX1_17.r hC.ct rfl ?_
    refine R_getR dX1_movingHunger_23 fX1_38 hC.tg.o rfl ?_
    refine iL2 dX1_movingHunger_26 ?_
    refine ialdN dX1_movingHunger_27 hC.tg.a6 rfl (by omega) ?_
    refine topV (v := w (101 + 7 * x)) (hCK1.tw.a6 (by omega)) ?_
    have hq3 := hC.wf.gr (c := x) (by omega)
    refine invV5 rfl dX1_movingHunger_28 kX1_74 hC.ct (Nat.le_of_ble_eq_true rfl) (Nat.zero_le _) (Nat.zero_le _) (C_X1_weigh hCK1 (by omega) (by omega) (hr := w 4) (hu := ((q : Nat) : Int)) (gr := w (101 + 7 * x)) (by omega) (by omega) (by omega) (fun h4 hx4 => konI ?_))
    have hO4 := hOK1.tr hx4
    have hC4 := hC.off hO4
    refine topV (v := ptW w j (x : Int) (w 4) (q : Int) (w (101 + 7 * x))) rfl ?_
    refine R_if_lt dX1_movingHunger_31 (fun hb31 => ?_) (fun hb31 => ?_)
    · refine iInc3 dX1_movingHunger_36 (winc (by omega)) ?_
      refine R_goto dX1_movingHunger_39 ?_
      exact ihq (by omega) (by rw [← ff_f (by omega) (by simp [movP]; omega)]; exact hq9) _ hO4
    · refine iL3 dX1_movingHunger_34 ?_
      exact R_iret dX1_movingHunger_35 rfl (by have := K _ hO4; rw [← hq9, ff_t (by omega) (by simp [movP]; omega)] at this; exact this)
set_option maxHeartbeats 400000 in
theorem C_X1_hangingGrave {d : Nat} {g : Gs} {h : Hc} {P : Po} {c t r : Nat} {w : Nat → Int} (hC : Ct g h c t r w) {j x : Nat} (hj : j < 5) (hx : (x : Int) < w 1) (K : ∀ h', Off (scr c r) h h' → P (.inl (some (vI (ff (evnP w j x) 0 100)))) g h') : Call (d + 3) 0 0 mX1_hangingGrave [vR c, vI ((j : Nat) : Int), vI ((x : Nat) : Int)] g h P := by
  have hcs := hC.wf.cas
  have hho := hC.wf.hou
  have hjd := hC.wf.jud
  refine Call_of rfl ⟨by decide +kernel, rfl⟩ (Nat.le_of_ble_eq_true rfl) rfl ?_
  have hO0 : Off (scr c r) h h := Off.rf _ _
  refine R_iconst_0 dX1_hangingGrave_0 ?_
  refine iS3 dX1_hangingGrave_1 ?_
  refine loopN (100) (fun q => ff (evnP w j x) q 100 = ff (evnP w j x) 0 100 → ∀ hK1 : Hc, Off (scr c r) h hK1 → Run (d + 3) 0 0 mX1_hangingGrave 2 [vR c, vI ((j : Nat) : Int), vI ((x : Nat) : Int), vI ((q : Nat) : Int)] [] g hK1 P) (fun q hcnq ihq hq9 hK1 hOK1 => ?_) (0) (Nat.zero_le _) rfl _ hO0
  have hCK1 := hC.off hOK1
  refine iL3 dX1_hangingGrave_2 ?_
  refine R_bipush dX1_hangingGrave_3 (by decide) ?_
  refine R_icmp_gt dX1_hangingGrave_5 (fun hb5 => ?_) (fun hb5 => ?_)
  · refine R_iconst_m1 dX1_hangingGrave_42 ?_
    exact R_iret dX1_hangingGrave_43 rfl (by have := K _ hOK1; rw [← hq9, ff_end (by omega)] at this; exact this)
  · refine aL0 dX1_hangingGrave_8 ?_
    refine iL1 dX1_hangingGrave_9 ?_
    refine iL2 dX1_hangingGrave_10 ?_
    refine aL0 dX1_hangingGrave_11 ?_
    refine R_getR dX1_hangingGrave_12 fX1_17.r hC.ct rfl ?_
    refine R_getI dX1_hangingGrave_15 fX1_58.r hC.tg.o ?_
    refine topV (v := w 4) (hCK1.tw.s3) ?_
    have hq2 := hC.wf.hou
    refine aL0 dX1_hangingGrave_18 ?_
    refine R_getR dX1_hangingGrave_19 fX1_17.r hC.ct rfl ?_
    refine R_getR dX1_hangingGrave_22 fX1_62 hC.tg.o rfl ?_
    refine iL1 dX1_hangingGrave_25 ?_
    refine ialdN dX1_hangingGrave_26 hC.tg.a1 rfl (by omega) ?_
    refine topV (v := w (80 + 4 * j)) (hCK1.tw.a1 (by omega)) ?_
    have hq3 := hC.wf.hu (j := j) (by omega)
    refine iL3 dX1_hangingGrave_27 ?_
    refine invV5 rfl dX1_hangingGrave_28 kX1_74 hC.ct (Nat.le_of_ble_eq_true rfl) (Nat.zero_le _) (Nat.zero_le _) (C_X1_weigh hCK1 (by omega) (by omega) (hr := w 4) (hu := w (80 + 4 * j)) (gr := ((q : Nat) : Int)) (by omega) (by omega) (by omega) (fun h4 hx4 => konI ?_))
    have hO4 := hOK1.tr hx4
    have hC4 := hC.off hO4
    refine topV (v := ptW w j (x : Int) (w 4) (w (80 + 4 * j)) (q : Int)) rfl ?_
    refine R_if_ge dX1_hangingGrave_31 (fun hb31 => ?_) (fun hb31 => ?_)
    · refine iInc3 dX1_hangingGrave_36 (winc (by omega)) ?_
      refine R_goto dX1_hangingGrave_39 ?_
      exact ihq (by omega) (by rw [← ff_f (by omega) (by simp [evnP]; omega)]; exact hq9) _ hO4
    · refine iL3 dX1_hangingGrave_34 ?_
      exact R_iret dX1_hangingGrave_35 rfl (by have := K _ hO4; rw [← hq9, ff_t (by omega) (by simp [evnP]; omega)] at this; exact this)
set_option maxHeartbeats 400000 in
theorem C_X1_freesHaving {d : Nat} {g : Gs} {h : Hc} {P : Po} {c t r : Nat} {w : Nat → Int} (hC : Ct g h c t r w) {k j x : Nat} (hk : k ≤ 60) (hj : j < 5) (hx : (x : Int) < w 1) {hr : Int} (hb1 : 0 ≤ hr ∧ hr ≤ 99) (K : ∀ h', Off (scr c r) h h' → P (.inl (some (vI (bI (frH w k j x hr))))) g h') : Call (d + 3) 0 0 mX1_freesHaving [vR c, vI ((k : Nat) : Int), vI ((j : Nat) : Int), vI ((x : Nat) : Int), vI hr] g h P := by
  have hcs := hC.wf.cas
  have hho := hC.wf.hou
  have hjd := hC.wf.jud
  refine Call_of rfl ⟨by decide +kernel, rfl⟩ (Nat.le_of_ble_eq_true rfl) rfl ?_
  have hO0 : Off (scr c r) h h := Off.rf _ _
  refine R_bipush dX1_freesHaving_0 (by decide) ?_
  refine iL1 dX1_freesHaving_2 ?_
  refine iL4 dX1_freesHaving_3 ?_
  refine addV dX1_freesHaving_5 (wid (by omega) (by omega)) ?_
  refine R_mmin dX1_freesHaving_6 kX1_78 lb_min (Nat.le_of_ble_eq_true rfl) ?_
  refine topV (v := mn99 ((k : Int) + hr)) (rfl) ?_
  have hmn := mn99_rng (x := (k : Int) + hr) (by omega)
  refine iS5 dX1_freesHaving_9 ?_
  refine aL0 dX1_freesHaving_11 ?_
  refine iL2 dX1_freesHaving_12 ?_
  refine iL3 dX1_freesHaving_13 ?_
  refine iL4 dX1_freesHaving_14 ?_
  refine iL5 dX1_freesHaving_16 ?_
  refine aL0 dX1_freesHaving_18 ?_
  refine R_getR dX1_freesHaving_19 fX1_17.r hC.ct rfl ?_
  refine R_getR dX1_freesHaving_22 fX1_38 hC.tg.o rfl ?_
  refine iL3 dX1_freesHaving_25 ?_
  refine ialdN dX1_freesHaving_26 hC.tg.a6 rfl (by omega) ?_
  refine topV (v := w (101 + 7 * x)) (hC.tw.a6 (by omega)) ?_
  have hq1 := hC.wf.gr (c := x) (by omega)
  refine invV5 rfl dX1_freesHaving_27 kX1_74 hC.ct (Nat.le_of_ble_eq_true rfl) (Nat.zero_le _) (Nat.zero_le _) (C_X1_weigh hC (by omega) (by omega) (hr := hr) (hu := mn99 ((k : Int) + hr)) (gr := w (101 + 7 * x)) (by omega) (by omega) (by omega) (fun h2 hx2 => konI ?_))
  have hO2 := hO0.tr hx2
  have hC2 := hC.off hO2
  refine topV (v := ptW w j (x : Int) hr (mn99 ((k : Int) + hr)) (w (101 + 7 * x))) rfl ?_
  refine R_if_lt dX1_freesHaving_30 (fun hb30 => ?_) (fun hb30 => ?_)
  · refine R_iconst_0 dX1_freesHaving_37 ?_
    exact R_zret dX1_freesHaving_38 rfl (by decide) (PeqI (K _ hO2) (by first | (rw [bI_t (by simp [frH]; omega)]) | (rw [bI_f (by simp [frH]; omega)])))
  · refine R_iconst_1 dX1_freesHaving_33 ?_
    refine R_goto dX1_freesHaving_34 ?_
    exact R_zret dX1_freesHaving_38 rfl (by decide) (PeqI (K _ hO2) (by first | (rw [bI_t (by simp [frH]; omega)]) | (rw [bI_f (by simp [frH]; omega)])))
