/-! THE CLASS: its cells from X on -/
def ClG (g : Gs) (X : Nat) : Prop := g.2.1 = 1 ∧ g.1[X]? = some (10, 16, [((X + 1 : Nat) : Int), ((X + 5 : Nat) : Int), ((X + 21 : Nat) : Int), ((X + 37 : Nat) : Int), ((X + 53 : Nat) : Int), ((X + 59 : Nat) : Int), ((X + 65 : Nat) : Int), ((X + 71 : Nat) : Int), ((X + 72 : Nat) : Int), ((X + 73 : Nat) : Int), ((X + 75 : Nat) : Int), ((X + 77 : Nat) : Int), ((X + 81 : Nat) : Int), ((X + 87 : Nat) : Int), -1, -1]) ∧
  (g.1[X + 1]? = some (8, 6, [((X + 2 : Nat) : Int), ((X + 3 : Nat) : Int), ((X + 4 : Nat) : Int), -1, -1, -1]) ∧ g.1[X + 2]? = some (13, 400, []) ∧ g.1[X + 3]? = some (13, 401, []) ∧ g.1[X + 4]? = some (13, 401, [])) ∧
  (TwG g (X + 5) ∧ TwG g (X + 21) ∧ TwG g (X + 37)) ∧ (LwG g (X + 53) ∧ LwG g (X + 59) ∧ LwG g (X + 65)) ∧
  (g.1[X + 71]? = some (0, 3, [((X + 1 : Nat) : Int), -1, ((X + 21 : Nat) : Int)]) ∧ g.1[X + 72]? = some (3, 3, [((X + 1 : Nat) : Int), -1, ((X + 59 : Nat) : Int)])) ∧
  (CtG g (X + 73) (X + 5) (X + 53) ∧ StG g (X + 75) (X + 5) (X + 73) (X + 76)) ∧ (CtG g (X + 78) (X + 21) (X + 53) ∧ StG g (X + 77) (X + 21) (X + 78) (X + 80)) ∧ MtG g (X + 81) (X + 5) (X + 73) ∧ PaG g (X + 87)
section
variable {g : Gs} {X : Nat}
theorem ClG.one (q : ClG g X) : g.2.1 = 1 := q.1
theorem ClG.o (q : ClG g X) : g.1[X]? = some (10, 16, [((X + 1 : Nat) : Int), ((X + 5 : Nat) : Int), ((X + 21 : Nat) : Int), ((X + 37 : Nat) : Int), ((X + 53 : Nat) : Int), ((X + 59 : Nat) : Int), ((X + 65 : Nat) : Int), ((X + 71 : Nat) : Int), ((X + 72 : Nat) : Int), ((X + 73 : Nat) : Int), ((X + 75 : Nat) : Int), ((X + 77 : Nat) : Int), ((X + 81 : Nat) : Int), ((X + 87 : Nat) : Int), -1, -1]) := q.2.1
theorem ClG.now (q : ClG g X) : TwG g (X + 5) := q.2.2.2.1.1
theorem ClG.drf (q : ClG g X) : TwG g (X + 21) := q.2.2.2.1.2.1
theorem ClG.kep (q : ClG g X) : TwG g (X + 37) := q.2.2.2.1.2.2
theorem ClG.rul (q : ClG g X) : LwG g (X + 53) := q.2.2.2.2.1.1
theorem ClG.ru2 (q : ClG g X) : LwG g (X + 59) := q.2.2.2.2.1.2.1
theorem ClG.ru3 (q : ClG g X) : LwG g (X + 65) := q.2.2.2.2.1.2.2
theorem ClG.past (q : ClG g X) : PaG g (X + 87) := q.2.2.2.2.2.2.2.2.2
/-- the court, the sitting and the matches of the town that is now -/
theorem ClG.court {h : Hc} {w : Nat → Int} (q : ClG g X) (ht : Tw h (X + 5) w) (hf : WF w) (hl : Lw h (X + 53) w) (ho : LawOK w) : Ct g h (X + 73) (X + 5) (X + 53) w :=
  ⟨⟨q.2.2.2.2.2.2.1.1, q.now, q.rul, fun i hi => by unfold scr; omega, fun i hi => by unfold scr; omega, by omega⟩, ht, hf, hl, ho⟩
theorem ClG.sitting {h : Hc} {w : Nat → Int} (q : ClG g X) (ht : Tw h (X + 5) w) (hf : WF w) (hl : Lw h (X + 53) w) (ho : LawOK w) : St g h (X + 75) (X + 5) (X + 73) (X + 53) (X + 76) w :=
  ⟨q.court ht hf hl ho, ⟨q.2.2.2.2.2.2.1.2.1, q.2.2.2.2.2.2.1.2.2⟩, fun i hi => by unfold sit; omega, by omega, by omega, fun i hi => by omega⟩
theorem ClG.rehearsal {h : Hc} {w : Nat → Int} (q : ClG g X) (ht : Tw h (X + 21) w) (hf : WF w) (hl : Lw h (X + 53) w) (ho : LawOK w) : St g h (X + 77) (X + 21) (X + 78) (X + 53) (X + 80) w :=
  ⟨⟨⟨q.2.2.2.2.2.2.2.1.1, q.drf, q.rul, fun i hi => by unfold scr; omega, fun i hi => by unfold scr; omega, by omega⟩, ht, hf, hl, ho⟩, ⟨q.2.2.2.2.2.2.2.1.2.1, q.2.2.2.2.2.2.2.1.2.2⟩, fun i hi => by unfold sit; omega, by omega, by omega, fun i hi => by omega⟩
theorem ClG.matches {h : Hc} {w : Nat → Int} (q : ClG g X) (ht : Tw h (X + 5) w) (hf : WF w) (hl : Lw h (X + 53) w) (ho : LawOK w) : Mt g h (X + 81) (X + 5) (X + 73) (X + 53) w :=
  ⟨q.court ht hf hl ho, q.2.2.2.2.2.2.2.2.1, fun i hi => by unfold mts; omega, fun i hi => by unfold mts; omega, fun i hi => by omega⟩
end
/-- behind a call that may throw, once the constructors are through -/
theorem konVm {d kc ks mc ms : Nat} {y : Mth} {n : Nat} {ls st : List AV} {g : Gs} {P : Po} {h' : Hc} (h1 : g.2.1 = 1) (K : Run d (kc - mc) (ks - ms) y n ls st g h' P) : Kon d (kc - mc) (ks - ms) y n ls st g mc P (.inl none) g h' := ⟨fun e => by omega, K⟩
theorem konIm {d kc ks mc ms : Nat} {y : Mth} {n : Nat} {ls st : List AV} {g : Gs} {P : Po} {h' : Hc} {v : AV} (h1 : g.2.1 = 1) (K : Run d (kc - mc) (ks - ms) y n ls (v :: st) g h' P) : Kon d (kc - mc) (ks - ms) y n ls st g mc P (.inl (some v)) g h' := ⟨fun e => by omega, K⟩
theorem konEm {d kc ks mc ms : Nat} {y : Mth} {n : Nat} {ls st : List AV} {g : Gs} {P : Po} {h' : Hc} {E : String} (h1 : g.2.1 = 1) (K : P (.inr E) g h') : Kon d (kc - mc) (ks - ms) y n ls st g mc P (.inr E) g h' := ⟨fun e => by omega, K⟩
abbrev xIO : String := "java/lang/IndexOutOfBoundsException"
abbrev xIA : String := "java/lang/IllegalArgumentException"
abbrev xIS : String := "java/lang/IllegalStateException"
abbrev xUO : String := "java/lang/UnsupportedOperationException"
abbrev xNE : String := "java/util/NoSuchElementException"
set_option maxHeartbeats 400000 in
theorem C_X11_needJudge {d : Nat} {g : Gs} {h : Hc} {P : Po} {X : Nat} {w : Nat → Int} (hG : ClG g X) (hw : Tw h (X + 5) w) (hf : WF w) {x : Int} (K0 : 0 ≤ x ∧ x < w 0 → P (.inl none) g h) (KE : ¬ (0 ≤ x ∧ x < w 0) → P (.inr xIO) g h) : Call (d + 0) 1 6 mX11_needJudge [vR X, vI x] g h P := by
  refine Call_of rfl ⟨by decide +kernel, rfl⟩ (Nat.le_of_ble_eq_true rfl) rfl ?_
  refine iL1 dX11_needJudge_0 ?_
  refine R_if_lt dX11_needJudge_1 (fun hb1 => ?_) (fun hb1 => ?_)
  · exact R_throw rfl dX11_needJudge_15 dX11_needJudge_18 dX11_needJudge_19 dX11_needJudge_22 tX11_320 hG.one (Nat.le_of_ble_eq_true rfl) (by decide) (by decide) (KE (by omega))
  · refine iL1 dX11_needJudge_4 ?_
    refine aL0 dX11_needJudge_5 ?_
    refine R_getR dX11_needJudge_6 fX11_19.r hG.o rfl ?_
    refine R_getI dX11_needJudge_9 fX11_266.r hG.now.o ?_
    refine topV (v := w 0) (hw.s0) ?_
    have hq1 := hf.jud
    refine R_icmp_lt dX11_needJudge_12 (fun hb12 => ?_) (fun hb12 => ?_)
    · exact R_vret dX11_needJudge_23 rfl (K0 (by omega))
    · exact R_throw rfl dX11_needJudge_15 dX11_needJudge_18 dX11_needJudge_19 dX11_needJudge_22 tX11_320 hG.one (Nat.le_of_ble_eq_true rfl) (by decide) (by decide) (KE (by omega))
set_option maxHeartbeats 400000 in
theorem C_X11_needCase {d : Nat} {g : Gs} {h : Hc} {P : Po} {X : Nat} {w : Nat → Int} (hG : ClG g X) (hw : Tw h (X + 5) w) (hf : WF w) {x : Int} (K0 : 0 ≤ x ∧ x < w 1 → P (.inl none) g h) (KE : ¬ (0 ≤ x ∧ x < w 1) → P (.inr xIO) g h) : Call (d + 0) 1 6 mX11_needCase [vR X, vI x] g h P := by
  refine Call_of rfl ⟨by decide +kernel, rfl⟩ (Nat.le_of_ble_eq_true rfl) rfl ?_
  refine iL1 dX11_needCase_0 ?_
  refine R_if_lt dX11_needCase_1 (fun hb1 => ?_) (fun hb1 => ?_)
  · exact R_throw rfl dX11_needCase_15 dX11_needCase_18 dX11_needCase_19 dX11_needCase_22 tX11_320 hG.one (Nat.le_of_ble_eq_true rfl) (by decide) (by decide) (KE (by omega))
  · refine iL1 dX11_needCase_4 ?_
    refine aL0 dX11_needCase_5 ?_
    refine R_getR dX11_needCase_6 fX11_19.r hG.o rfl ?_
    refine R_getI dX11_needCase_9 fX11_290.r hG.now.o ?_
    refine topV (v := w 1) (hw.s1) ?_
    have hq1 := hf.cas
    refine R_icmp_lt dX11_needCase_12 (fun hb12 => ?_) (fun hb12 => ?_)
    · exact R_vret dX11_needCase_23 rfl (K0 (by omega))
    · exact R_throw rfl dX11_needCase_15 dX11_needCase_18 dX11_needCase_19 dX11_needCase_22 tX11_320 hG.one (Nat.le_of_ble_eq_true rfl) (by decide) (by decide) (KE (by omega))
set_option maxHeartbeats 400000 in
theorem C_X11_needHour {d : Nat} {g : Gs} {h : Hc} {P : Po} {X : Nat} {w : Nat → Int} (hG : ClG g X) (hw : Tw h (X + 5) w) (hf : WF w) {x : Int} (K0 : 0 ≤ x ∧ x < 12 → P (.inl none) g h) (KE : ¬ (0 ≤ x ∧ x < 12) → P (.inr xIO) g h) : Call (d + 0) 1 6 mX11_needHour [vR X, vI x] g h P := by
  refine Call_of rfl ⟨by decide +kernel, rfl⟩ (Nat.le_of_ble_eq_true rfl) rfl ?_
  refine iL1 dX11_needHour_0 ?_
  refine R_if_lt dX11_needHour_1 (fun hb1 => ?_) (fun hb1 => ?_)
  · exact R_throw rfl dX11_needHour_10 dX11_needHour_13 dX11_needHour_14 dX11_needHour_17 tX11_320 hG.one (Nat.le_of_ble_eq_true rfl) (by decide) (by decide) (KE (by omega))
  · refine iL1 dX11_needHour_4 ?_
    refine R_bipush dX11_needHour_5 (by decide) ?_
    refine R_icmp_lt dX11_needHour_7 (fun hb7 => ?_) (fun hb7 => ?_)
    · exact R_vret dX11_needHour_18 rfl (K0 (by omega))
    · exact R_throw rfl dX11_needHour_10 dX11_needHour_13 dX11_needHour_14 dX11_needHour_17 tX11_320 hG.one (Nat.le_of_ble_eq_true rfl) (by decide) (by decide) (KE (by omega))
set_option maxHeartbeats 400000 in
theorem C_X11_needNumber {d : Nat} {g : Gs} {h : Hc} {P : Po} {X : Nat} {w : Nat → Int} (hG : ClG g X) (hw : Tw h (X + 5) w) (hf : WF w) {x a b : Int} (K0 : a ≤ x ∧ x ≤ b → P (.inl none) g h) (KE : ¬ (a ≤ x ∧ x ≤ b) → P (.inr xIA) g h) : Call (d + 0) 1 6 mX11_needNumber [vR X, vI x, vI a, vI b] g h P := by
  refine Call_of rfl ⟨by decide +kernel, rfl⟩ (Nat.le_of_ble_eq_true rfl) rfl ?_
  refine iL1 dX11_needNumber_0 ?_
  refine iL2 dX11_needNumber_1 ?_
  refine R_icmp_lt dX11_needNumber_2 (fun hb2 => ?_) (fun hb2 => ?_)
  · exact R_throw rfl dX11_needNumber_10 dX11_needNumber_13 dX11_needNumber_14 dX11_needNumber_17 tX11_121 hG.one (Nat.le_of_ble_eq_true rfl) (by decide) (by decide) (KE (by omega))
  · refine iL1 dX11_needNumber_5 ?_
    refine iL3 dX11_needNumber_6 ?_
    refine R_icmp_le dX11_needNumber_7 (fun hb7 => ?_) (fun hb7 => ?_)
    · exact R_vret dX11_needNumber_18 rfl (K0 (by omega))
    · exact R_throw rfl dX11_needNumber_10 dX11_needNumber_13 dX11_needNumber_14 dX11_needNumber_17 tX11_121 hG.one (Nat.le_of_ble_eq_true rfl) (by decide) (by decide) (KE (by omega))
