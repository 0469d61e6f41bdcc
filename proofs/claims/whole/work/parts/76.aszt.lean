theorem ClG.asz {g : Gs} {X : Nat} (q : ClG g X) : g.1[X + 71]? = some (0, 3, [((X + 1 : Nat) : Int), -1, ((X + 21 : Nat) : Int)]) := q.2.2.2.2.2.1.1
theorem ClG.lwt {g : Gs} {X : Nat} (q : ClG g X) : g.1[X + 72]? = some (3, 3, [((X + 1 : Nat) : Int), -1, ((X + 59 : Nat) : Int)]) := q.2.2.2.2.2.1.2
/-- beside the tape's place the draft too may change -/
def MvD (X : Nat) (h h' : Hc) : Prop := ∀ a i, ¬ (a = X + 1 ∧ (i = 4 ∨ i = 5)) → ¬ (X + 21 ≤ a ∧ a < X + 37) → h' a i = h a i
theorem Mv.d {X : Nat} {h h' : Hc} (p : Mv X h h') : MvD X h h' := fun a i n _ => p a i n
theorem MvD.rf {X : Nat} {h : Hc} : MvD X h h := fun _ _ _ _ => rfl
theorem MvD.tr {X : Nat} {h1 h2 h3 : Hc} (p : MvD X h1 h2) (q : MvD X h2 h3) : MvD X h1 h3 := fun a i n m => (q a i n m).trans (p a i n m)
theorem MvD.up {X c i : Nat} {h h' : Hc} {v : Int} (p : MvD X h h') (hc : X + 21 ≤ c ∧ c < X + 37) : MvD X h (updH h' c i v) := by
  intro a j n m
  rw [updH_a (by rintro rfl; exact m hc)]
  exact p a j n m
theorem Tw.mv {h h' : Hc} {X t : Nat} {w : Nat → Int} (q : Tw h t w) (m : Mv X h h') (ht : X + 1 < t) : Tw h' t w := q.off m.off (fun i hi => by omega)
theorem TpC.d {h h' : Hc} {X : Nat} {b : Nat → Int} {L N k : Nat} (q : TpC h X b L N k) (e1 : h' (X + 1) = h (X + 1)) (e3 : h' (X + 3) = h (X + 3)) (e4 : h' (X + 4) = h (X + 4)) : TpC h' X b L N k := by
  unfold TpC
  rw [e1, e3, e4]
  exact q
/-- what a line has come to -/
def LnC (h : Hc) (X : Nat) (b : Nat → Int) (L N : Nat) (v : Int) (R : Nat ⊕ (Nat × (Nat → Int))) : Prop := (v = 1 ∧ ∃ k w, R = .inr (k, w) ∧ TpC h X b L N k ∧ Tw h (X + 21) w ∧ WF w) ∨ (v = 0 ∧ ∃ f, R = .inl f ∧ Wr h X b L f)
def asInn (t w : Nat → Int) (k : Nat) : Nat ⊕ (Nat × (Nat → Int)) := rdW t k 1014 fun k => rdN t k 0 11 fun n k => rdN t k 0 100 fun c k => .inr (k, updW w (8 + n.toNat) c)
def asPla (t w : Nat → Int) (k : Nat) : Nat ⊕ (Nat × (Nat → Int)) := rdW t k 1013 fun k => rdN t k 0 (w 0 - 1) fun j k => rdN t k 0 11 fun n k => if 0 ≤ t k ∧ t k < w 1 ∧ placeOf w (t k) < 0 then .inr (k + 1, plW w j n (t k)) else .inl k
def asJdg (t w : Nat → Int) (k : Nat) : Nat ⊕ (Nat × (Nat → Int)) := if 5 ≤ w 0 then .inl k else rdW t k 1000 fun k => rdW t k 1010 fun k => rdN t k 0 99 fun m k => rdW t k 1002 fun k => rdN t k 0 9 fun n k => rdM t k 1001 99 0 fun u k => rdM t k 1011 99 0 fun y k => .inr (k, jdW w m n u y)
def asCas (t w : Nat → Int) (k : Nat) : Nat ⊕ (Nat × (Nat → Int)) := if 8 ≤ w 1 then .inl k else rdW t k 1012 fun k => rdN t k 1024 1029 fun kd k => rdW t k 1004 fun k => rdN t k 0 99 fun a k => rdM t k 1005 99 1 fun o k => rdM t k 1016 (w 1 - 1) (-1) fun l k => .inr (k, csW w kd a o l)
set_option maxHeartbeats 400000 in
theorem C_X0_readInn {d : Nat} {g : Gs} {h : Hc} {P : Po} {X : Nat} {b : Nat → Int} {L N k : Nat} (hG : ClG g X) (hT : TpC h X b L N k) {w : Nat → Int} (hw : Tw h (X + 21) w) (hf : WF w) (K : ∀ h' (v : Int), MvD X h h' → LnC h' X b L N v (asInn (thT b L) w k) → P (.inl (some (vI v))) g h') : Call (d + 3) 0 0 mX0_readInn [vR (X + 71)] g h P := by
  have hkN := hT.2.1
  have hN4 := hT.1
  have hjd := hf.jud
  have hcs := hf.cas
  refine Call_of rfl ⟨by decide +kernel, rfl⟩ (Nat.le_of_ble_eq_true rfl) rfl ?_
  refine aL0 dX0_readInn_0 ?_
  refine R_getR dX0_readInn_1 fX0_15 hG.asz rfl ?_
  refine R_sipush dX0_readInn_4 (by decide) ?_
  refine R_bipush dX0_readInn_7 (by decide) ?_
  refine invV2 rfl dX0_readInn_9 kX0_38 hG.tape (Nat.le_of_ble_eq_true rfl) (Nat.zero_le _) (Nat.zero_le _) (C_X8_needNamed hG hT (x := 1014) (hi := 11) (by decide) (fun h1 v1 m1 q1 => konI ?_))
  have hw1 : Tw h1 (X + 21) w := hw.mv m1 (by omega)
  refine iS1 dX0_readInn_12 ?_
  refine iL1 dX0_readInn_13 ?_
  refine R_if_ge dX0_readInn_14 (fun hb14 => ?_) (fun hb14 => ?_)
  · have c1 : 0 ≤ v1 := by omega
    obtain ⟨b1, k1, T1, r1⟩ := q1.yes (by omega)
    refine aL0 dX0_readInn_21 ?_
    refine R_getR dX0_readInn_22 fX0_15 hG.asz rfl ?_
    refine R_bipush dX0_readInn_25 (by decide) ?_
    refine invV1 rfl dX0_readInn_27 kX0_84 hG.tape (Nat.le_of_ble_eq_true rfl) (Nat.zero_le _) (Nat.zero_le _) (C_X8_needNumber hG T1 (hi := 100) (fun h2 v2 m2 q2 => konI ?_))
    have hw2 : Tw h2 (X + 21) w := hw1.mv m2 (by omega)
    refine iS2 dX0_readInn_30 ?_
    refine iL2 dX0_readInn_31 ?_
    refine R_if_ge dX0_readInn_32 (fun hb32 => ?_) (fun hb32 => ?_)
    · have c2 : 0 ≤ v2 := by omega
      obtain ⟨b2, k2, T2, r2⟩ := q2.yes (by omega)
      refine aL0 dX0_readInn_37 ?_
      refine R_getR dX0_readInn_38 fX0_11.r hG.asz rfl ?_
      refine R_getR dX0_readInn_41 fX0_107 hG.drf.o rfl ?_
      refine iL1 dX0_readInn_44 ?_
      refine iL2 dX0_readInn_45 ?_
      refine iastN (k := (v1).toNat) dX0_readInn_46 hG.drf.a13 (by omega) (by omega) ?_
      refine R_iconst_1 dX0_readInn_47 ?_
      exact R_zret dX0_readInn_48 rfl (by decide) (K _ _ ((m1.tr m2).d.up (by omega)) (Or.inl ⟨rfl, _, _, (r1 _ _).trans (r2 _ _), T2.d (updH_a (by omega)) (updH_a (by omega)) (updH_a (by omega)), hw2.uin (by omega), hf.uin (by omega) (by omega)⟩))
    · obtain ⟨b2, f2, w2, r2⟩ := q2.no (by omega)
      refine R_iconst_0 dX0_readInn_35 ?_
      exact R_zret dX0_readInn_36 rfl (by decide) (K _ _ (m1.tr m2).d (Or.inr ⟨rfl, _, (r1 _ _).trans (r2 _ _), w2⟩))
  · obtain ⟨b1, f1, w1, r1⟩ := q1.no (by omega)
    refine R_iconst_m1 dX0_readInn_17 ?_
    refine R_goto dX0_readInn_18 ?_
    refine iS2 dX0_readInn_30 ?_
    refine iL2 dX0_readInn_31 ?_
    refine R_if_ge dX0_readInn_32 (fun hb => absurd hb (by decide)) (fun _ => ?_)
    refine R_iconst_0 dX0_readInn_35 ?_
    exact R_zret dX0_readInn_36 rfl (by decide) (K _ _ m1.d (Or.inr ⟨rfl, _, r1 _ _, w1⟩))
