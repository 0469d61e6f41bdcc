theorem ClG.asz {g : Gs} {X : Nat} (q : ClG g X) : g.1[X + 71]? = some (0, 3, [((X + 1 : Nat) : Int), -1, ((X + 21 : Nat) : Int)]) := q.2.2.2.2.2.1.1
theorem ClG.lwt {g : Gs} {X : Nat} (q : ClG g X) : g.1[X + 72]? = some (3, 3, [((X + 1 : Nat) : Int), -1, ((X + 59 : Nat) : Int)]) := q.2.2.2.2.2.1.2
/-- beside the tape's place the draft too may change -/
def MvD (X : Nat) (h h' : Hc) : Prop := ∀ a i, ¬ (a = X + 1 ∧ (i = 4 ∨ i = 5)) → ¬ (X + 21 ≤ a ∧ a < X + 37) → h' a i = h a i
theorem Mv.d {X : Nat} {h h' : Hc} (p : Mv X h h') : MvD X h h' := fun a i n _ => p a i n
theorem MvD.rf {X : Nat} {h : Hc} : MvD X h h := fun _ _ _ _ => rfl
theorem MvD.tr {X : Nat} {h1 h2 h3 : Hc} (p : MvD X h1 h2) (q : MvD X h2 h3) : MvD X h1 h3 := fun a i n m => (q a i n m).trans (p a i n m)
theorem MvD.up {X c i : Nat} {h h' : Hc} {v : Int} (p : MvD X h h') (hc : X + 21 ≤ c ∧ c < X + 37) : MvD X h (updH h' c i v) := by
  intro a j n m
  rw [updH_a (by rintro rfl; exact m hc)]
  exact p a j n m
theorem Tw.mv {h h' : Hc} {X t : Nat} {w : Nat → Int} (q : Tw h t w) (m : Mv X h h') (ht : X + 1 < t) : Tw h' t w := q.off m.off (fun i hi => by omega)
theorem TpC.d {h h' : Hc} {X : Nat} {b : Nat → Int} {L N k : Nat} (q : TpC h X b L N k) (e1 : h' (X + 1) = h (X + 1)) (e3 : h' (X + 3) = h (X + 3)) (e4 : h' (X + 4) = h (X + 4)) : TpC h' X b L N k := by
  unfold TpC
  rw [e1, e3, e4]
  exact q
/-- what a line has come to -/
def LnC (h : Hc) (X : Nat) (b : Nat → Int) (L N : Nat) (v : Int) (R : Nat ⊕ (Nat × (Nat → Int))) : Prop := (v = 1 ∧ ∃ k w, R = .inr (k, w) ∧ TpC h X b L N k ∧ Tw h (X + 21) w ∧ WF w) ∨ (v = 0 ∧ ∃ f, R = .inl f ∧ Wr h X b L f)
def asInn (t w : Nat → Int) (k : Nat) : Nat ⊕ (Nat × (Nat → Int)) := rdW t k 1014 fun k => rdN t k 0 11 fun n k => rdN t k 0 100 fun c k => .inr (k, updW w (8 + n.toNat) c)
def asPla (t w : Nat → Int) (k : Nat) : Nat ⊕ (Nat × (Nat → Int)) := rdW t k 1013 fun k => rdN t k 0 (w 0 - 1) fun j k => rdN t k 0 11 fun n k => if 0 ≤ t k ∧ t k < w 1 ∧ placeOf w (t k) < 0 then .inr (k + 1, plW w j n (t k)) else .inl k
def asJdg (t w : Nat → Int) (k : Nat) : Nat ⊕ (Nat × (Nat → Int)) := if 5 ≤ w 0 then .inl k else rdW t k 1000 fun k => rdW t k 1010 fun k => rdN t k 0 99 fun m k => rdW t k 1002 fun k => rdN t k 0 9 fun n k => rdM t k 1001 99 0 fun u k => rdM t k 1011 99 0 fun y k => .inr (k, jdW w m n u y)
def asCas (t w : Nat → Int) (k : Nat) : Nat ⊕ (Nat × (Nat → Int)) := if 8 ≤ w 1 then .inl k else rdW t k 1012 fun k => rdN t k 1024 1029 fun kd k => rdW t k 1004 fun k => rdN t k 0 99 fun a k => rdM t k 1005 99 1 fun o k => rdM t k 1016 (w 1 - 1) (-1) fun l k => .inr (k, csW w kd a o l)
set_option maxHeartbeats 400000 in
theorem C_X0_readInn {d : Nat} {g : Gs} {h : Hc} {P : Po} {X : Nat} {b : Nat → Int} {L N k : Nat} (hG : ClG g X) (hT : TpC h X b L N k) {w : Nat → Int} (hw : Tw h (X + 21) w) (hf : WF w) (K : ∀ h' (v : Int), MvD X h h' → LnC h' X b L N v (asInn (thT b L) w k) → P (.inl (some (vI v))) g h') : Call (d + 3) 0 0 mX0_readInn [vR (X + 71)] g h P := by
  have hkN := hT.2.1
  have hN4 := hT.1
  have hjd := hf.jud
  have hcs := hf.cas
  refine Call_of rfl ⟨by decide +kernel, rfl⟩ (Nat.le_of_ble_eq_true rfl) rfl ?_
  refine aL0 dX0_readInn_0 ?_
  refine R_getR dX0_readInn_1 fX0_15 hG.asz rfl ?_
  refine R_sipush dX0_readInn_4 (by decide) ?_
  refine R_bipush dX0_readInn_7 (by decide) ?_
  refine invV2 rfl dX0_readInn_9 kX0_38 hG.tape (Nat.le_of_ble_eq_true rfl) (Nat.zero_le _) (Nat.zero_le _) (C_X8_needNamed hG hT (x := 1014) (hi := 11) (by decide) (fun h1 v1 m1 q1 => konI ?_))
  have hw1 : Tw h1 (X + 21) w := hw.mv m1 (by omega)
  refine iS1 dX0_readInn_12 ?_
  refine iL1 dX0_readInn_13 ?_
  refine R_if_ge dX0_readInn_14 (fun hb14 => ?_) (fun hb14 => ?_)
  · have c1 : 0 ≤ v1 := by omega
    obtain ⟨b1, k1, T1, r1⟩ := q1.yes (by omega)
    refine aL0 dX0_readInn_21 ?_
    refine R_getR dX0_readInn_22 fX0_15 hG.asz rfl ?_
    refine R_bipush dX0_readInn_25 (by decide) ?_
    refine invV1 rfl dX0_readInn_27 kX0_84 hG.tape (Nat.le_of_ble_eq_true rfl) (Nat.zero_le _) (Nat.zero_le _) (C_X8_needNumber hG T1 (hi := 100) (fun h2 v2 m2 q2 => konI ?_))
    have hw2 : Tw h2 (X + 21) w := hw1.mv m2 (by omega)
    refine iS2 dX0_readInn_30 ?_
    refine iL2 dX0_readInn_31 ?_
    refine R_if_ge dX0_readInn_32 (fun hb32 => ?_) (fun hb32 => ?_)
    · have c2 : 0 ≤ v2 := by omega
      obtain ⟨b2, k2, T2, r2⟩ := q2.yes (by omega)
      refine aL0 dX0_readInn_37 ?_
      refine R_getR dX0_readInn_38 fX0_11.r hG.asz rfl ?_
      refine R_getR dX0_readInn_41 fX0_107 hG.drf.o rfl ?_
      refine iL1 dX0_readInn_44 ?_
      refine iL2 dX0_readInn_45 ?_
      refine iastN (k := (v1).toNat) dX0_readInn_46 hG.drf.a13 (by omega) (by omega) ?_
      refine R_iconst_1 dX0_readInn_47 ?_
      exact R_zret dX0_readInn_48 rfl (by decide) (K _ _ ((m1.tr m2).d.up (by omega)) (Or.inl ⟨rfl, _, _, (r1 _ _).trans (r2 _ _), T2.d (updH_a (by omega)) (updH_a (by omega)) (updH_a (by omega)), hw2.uin (by omega), hf.uin (by omega) (by omega)⟩))
    · obtain ⟨b2, f2, w2, r2⟩ := q2.no (by omega)
      refine R_iconst_0 dX0_readInn_35 ?_
      exact R_zret dX0_readInn_36 rfl (by decide) (K _ _ (m1.tr m2).d (Or.inr ⟨rfl, _, (r1 _ _).trans (r2 _ _), w2⟩))
  · obtain ⟨b1, f1, w1, r1⟩ := q1.no (by omega)
    refine R_iconst_m1 dX0_readInn_17 ?_
    refine R_goto dX0_readInn_18 ?_
    refine iS2 dX0_readInn_30 ?_
    refine iL2 dX0_readInn_31 ?_
    refine R_if_ge dX0_readInn_32 (fun hb => absurd hb (by decide)) (fun _ => ?_)
    refine R_iconst_0 dX0_readInn_35 ?_
    exact R_zret dX0_readInn_36 rfl (by decide) (K _ _ m1.d (Or.inr ⟨rfl, _, r1 _ _, w1⟩))
theorem pla_no {w : Nat → Int} {c : Int} (h : placeOf w c < 0) : ∀ q, q < 60 → w (20 + q) ≠ c := by
  intro q hq e
  rcases firstB_rng (placeP w c) 60 with h1 | ⟨k, _, h2, _, _⟩
  · have : firstB (placeP w c) 60 ≠ -1 := by
      intro h3
      have hall : ∀ n, n ≤ 60 → (∀ k, k < n → placeP w c k = false) := by
        intro n
        induction n with
        | zero => intro _ k hk; exact absurd hk (Nat.not_lt_zero _)
        | succ n ih =>
          intro hn k hk
          by_cases e1 : k = n
          · subst e1
            cases hp : placeP w c k with
            | false => rfl
            | true =>
              rw [firstB_at hp (ih (by omega)) (show k < 60 by omega)] at h3
              omega
          · exact ih (by omega) k (by omega)
      have := hall 60 (Nat.le_refl _) q hq
      unfold placeP at this
      exact absurd e (of_decide_eq_false this)
    exact this h1
  · unfold placeOf at h
    omega
set_option maxHeartbeats 400000 in
theorem C_X0_readPlace {d : Nat} {g : Gs} {h : Hc} {P : Po} {X : Nat} {b : Nat → Int} {L N k : Nat} (hG : ClG g X) (hT : TpC h X b L N k) {w : Nat → Int} (hw : Tw h (X + 21) w) (hf : WF w) (K : ∀ h' (v : Int), MvD X h h' → LnC h' X b L N v (asPla (thT b L) w k) → P (.inl (some (vI v))) g h') : Call (d + 3) 0 0 mX0_readPlace [vR (X + 71)] g h P := by
  have hkN := hT.2.1
  have hN4 := hT.1
  have hjd := hf.jud
  have hcs := hf.cas
  refine Call_of rfl ⟨by decide +kernel, rfl⟩ (Nat.le_of_ble_eq_true rfl) rfl ?_
  refine aL0 dX0_readPlace_0 ?_
  refine R_getR dX0_readPlace_1 fX0_15 hG.asz rfl ?_
  refine R_sipush dX0_readPlace_4 (by decide) ?_
  refine aL0 dX0_readPlace_7 ?_
  refine R_getR dX0_readPlace_8 fX0_11.r hG.asz rfl ?_
  refine R_getI dX0_readPlace_11 fX0_54.r hG.drf.o ?_
  refine topV (v := w 0) (hw.s0) ?_
  have hq1 := hf.jud
  refine R_iconst_1 dX0_readPlace_14 ?_
  refine subV dX0_readPlace_15 (wid (by omega) (by omega)) ?_
  refine invV2 rfl dX0_readPlace_16 kX0_38 hG.tape (Nat.le_of_ble_eq_true rfl) (Nat.zero_le _) (Nat.zero_le _) (C_X8_needNamed hG hT (x := 1013) (hi := (w 0) - 1) (by decide) (fun h2 v2 m2 q2 => konI ?_))
  have hw2 : Tw h2 (X + 21) w := hw.mv m2 (by omega)
  refine iS1 dX0_readPlace_19 ?_
  refine iL1 dX0_readPlace_20 ?_
  refine R_if_ge dX0_readPlace_21 (fun hb21 => ?_) (fun hb21 => ?_)
  · obtain ⟨b2, k2, T2, r2⟩ := q2.yes (by omega)
    obtain ⟨n2, e2⟩ : ∃ i : Nat, v2 = (i : Int) := ⟨v2.toNat, by omega⟩
    subst e2
    refine aL0 dX0_readPlace_28 ?_
    refine R_getR dX0_readPlace_29 fX0_15 hG.asz rfl ?_
    refine R_bipush dX0_readPlace_32 (by decide) ?_
    refine invV1 rfl dX0_readPlace_34 kX0_84 hG.tape (Nat.le_of_ble_eq_true rfl) (Nat.zero_le _) (Nat.zero_le _) (C_X8_needNumber hG T2 (hi := 11) (fun h3 v3 m3 q3 => konI ?_))
    have hw3 : Tw h3 (X + 21) w := hw2.mv m3 (by omega)
    refine iS2 dX0_readPlace_37 ?_
    refine iL2 dX0_readPlace_38 ?_
    refine R_if_ge dX0_readPlace_39 (fun hb39 => ?_) (fun hb39 => ?_)
    · obtain ⟨b3, k3, T3, r3⟩ := q3.yes (by omega)
      obtain ⟨n3, e3⟩ : ∃ i : Nat, v3 = (i : Int) := ⟨v3.toNat, by omega⟩
      subst e3
      refine aL0 dX0_readPlace_44 ?_
      refine R_getR dX0_readPlace_45 fX0_15 hG.asz rfl ?_
      refine invV0 rfl dX0_readPlace_48 kX0_19 hG.tape (Nat.le_of_ble_eq_true rfl) (Nat.zero_le _) (Nat.zero_le _) (C_X8_here hG T3 (konI ?_))
      refine iS3 dX0_readPlace_51 ?_
      refine iL3 dX0_readPlace_52 ?_
      refine R_if_lt dX0_readPlace_53 (fun hb53 => ?_) (fun hb53 => ?_)
      · refine aL0 dX0_readPlace_89 ?_
        refine R_getR dX0_readPlace_90 fX0_15 hG.asz rfl ?_
        refine invV0 rfl dX0_readPlace_93 kX0_51 hG.tape (Nat.le_of_ble_eq_true rfl) (Nat.zero_le _) (Nat.zero_le _) (C_X8_refuse hG T3 (fun h4 m4 w4 => konI ?_))
        have hw4 : Tw h4 (X + 21) w := hw3.mv m4 (by omega)
        exact R_zret dX0_readPlace_96 rfl (by decide) (K _ _ ((m2.tr m3).tr m4).d (Or.inr ⟨rfl, _, (r2 _ _).trans ((r3 _ _).trans (if_neg (by omega))), w4⟩))
      · refine iL3 dX0_readPlace_56 ?_
        refine aL0 dX0_readPlace_57 ?_
        refine R_getR dX0_readPlace_58 fX0_11.r hG.asz rfl ?_
        refine R_getI dX0_readPlace_61 fX0_78.r hG.drf.o ?_
        refine topV (v := w 1) (hw3.s1) ?_
        have hq5 := hf.cas
        refine R_icmp_ge dX0_readPlace_64 (fun hb64 => ?_) (fun hb64 => ?_)
        · refine aL0 dX0_readPlace_89 ?_
          refine R_getR dX0_readPlace_90 fX0_15 hG.asz rfl ?_
          refine invV0 rfl dX0_readPlace_93 kX0_51 hG.tape (Nat.le_of_ble_eq_true rfl) (Nat.zero_le _) (Nat.zero_le _) (C_X8_refuse hG T3 (fun h6 m6 w6 => konI ?_))
          have hw6 : Tw h6 (X + 21) w := hw3.mv m6 (by omega)
          exact R_zret dX0_readPlace_96 rfl (by decide) (K _ _ ((m2.tr m3).tr m6).d (Or.inr ⟨rfl, _, (r2 _ _).trans ((r3 _ _).trans (if_neg (by omega))), w6⟩))
        · refine aL0 dX0_readPlace_67 ?_
          refine R_getR dX0_readPlace_68 fX0_11.r hG.asz rfl ?_
          refine iL3 dX0_readPlace_71 ?_
          refine invV1 rfl dX0_readPlace_72 kX0_100 hG.drf.o (Nat.le_of_ble_eq_true rfl) (Nat.zero_le _) (Nat.zero_le _) (C_X10_placeOf hG.drf hw3 (konI ?_))
          refine R_if_ge dX0_readPlace_75 (fun hb75 => ?_) (fun hb75 => ?_)
          · refine aL0 dX0_readPlace_89 ?_
            refine R_getR dX0_readPlace_90 fX0_15 hG.asz rfl ?_
            refine invV0 rfl dX0_readPlace_93 kX0_51 hG.tape (Nat.le_of_ble_eq_true rfl) (Nat.zero_le _) (Nat.zero_le _) (C_X8_refuse hG T3 (fun h7 m7 w7 => konI ?_))
            have hw7 : Tw h7 (X + 21) w := hw3.mv m7 (by omega)
            exact R_zret dX0_readPlace_96 rfl (by decide) (K _ _ ((m2.tr m3).tr m7).d (Or.inr ⟨rfl, _, (r2 _ _).trans ((r3 _ _).trans (if_neg (by omega))), w7⟩))
          · refine aL0 dX0_readPlace_78 ?_
            refine R_getR dX0_readPlace_79 fX0_15 hG.asz rfl ?_
            refine iL3 dX0_readPlace_82 ?_
            refine invV1 rfl dX0_readPlace_83 kX0_57 hG.tape (Nat.le_of_ble_eq_true rfl) (Nat.zero_le _) (Nat.zero_le _) (C_X8_take hG T3 (x := thT b L k3) (by omega) (fun h8 m8 t8 => konI ?_))
            have hw8 : Tw h8 (X + 21) w := hw3.mv m8 (by omega)
            refine R_ifB_ne dX0_readPlace_86 (fun hb86 => ?_) (fun hb86 => ?_)
            · rw [if_pos rfl] at t8
              refine aL0 dX0_readPlace_97 ?_
              refine R_getR dX0_readPlace_98 fX0_11.r hG.asz rfl ?_
              refine iL1 dX0_readPlace_101 ?_
              refine iL2 dX0_readPlace_102 ?_
              refine iL3 dX0_readPlace_103 ?_
              refine invV3 rfl dX0_readPlace_104 kX0_103 hG.drf.o (Nat.le_of_ble_eq_true rfl) (Nat.zero_le _) (Nat.zero_le _) (C_X10_putAt hG.drf (by omega) (by omega) (konV ?_))
              refine R_iconst_1 dX0_readPlace_107 ?_
              exact R_zret dX0_readPlace_108 rfl (by decide) (K _ _ (((m2.tr m3).tr m8).d.up (by omega)) (Or.inl ⟨rfl, _, _, (r2 _ _).trans ((r3 _ _).trans (if_pos ⟨by omega, by omega, by omega⟩)), t8.d (updH_a (by omega)) (updH_a (by omega)) (updH_a (by omega)), hw8.upl (by omega), hf.upl (by omega) (Or.inr ⟨by omega, pla_no (by omega), by omega⟩)⟩))
            · exact absurd (decide_eq_true (p := thT b L k3 = thT b L k3) rfl) (by rw [hb86]; decide)
    · obtain ⟨b3, f3, w3, r3⟩ := q3.no (by omega)
      refine R_iconst_0 dX0_readPlace_42 ?_
      exact R_zret dX0_readPlace_43 rfl (by decide) (K _ _ (m2.tr m3).d (Or.inr ⟨rfl, _, (r2 _ _).trans (r3 _ _), w3⟩))
  · obtain ⟨b2, f2, w2, r2⟩ := q2.no (by omega)
    refine R_iconst_m1 dX0_readPlace_24 ?_
    refine R_goto dX0_readPlace_25 ?_
    refine iS2 dX0_readPlace_37 ?_
    refine iL2 dX0_readPlace_38 ?_
    refine R_if_ge dX0_readPlace_39 (fun hb => absurd hb (by decide)) (fun _ => ?_)
    refine R_iconst_0 dX0_readPlace_42 ?_
    exact R_zret dX0_readPlace_43 rfl (by decide) (K _ _ m2.d (Or.inr ⟨rfl, _, r2 _ _, w2⟩))
set_option maxHeartbeats 400000 in
theorem C_X0_readJudge {d : Nat} {g : Gs} {h : Hc} {P : Po} {X : Nat} {b : Nat → Int} {L N k : Nat} (hG : ClG g X) (hT : TpC h X b L N k) {w : Nat → Int} (hw : Tw h (X + 21) w) (hf : WF w) (K : ∀ h' (v : Int), MvD X h h' → LnC h' X b L N v (asJdg (thT b L) w k) → P (.inl (some (vI v))) g h') : Call (d + 3) 0 0 mX0_readJudge [vR (X + 71)] g h P := by
  have hkN := hT.2.1
  have hN4 := hT.1
  have hjd := hf.jud
  have hcs := hf.cas
  obtain ⟨j, hj⟩ : ∃ j : Nat, w 0 = (j : Int) := ⟨(w 0).toNat, by omega⟩
  refine Call_of rfl ⟨by decide +kernel, rfl⟩ (Nat.le_of_ble_eq_true rfl) rfl ?_
  refine aL0 dX0_readJudge_0 ?_
  refine R_getR dX0_readJudge_1 fX0_11.r hG.asz rfl ?_
  refine R_getI dX0_readJudge_4 fX0_54.r hG.drf.o ?_
  refine topV (v := w 0) (hw.s0) ?_
  have hq1 := hf.jud
  refine topV (v := ((j : Nat) : Int)) (hj) ?_
  refine iS1 dX0_readJudge_7 ?_
  refine iL1 dX0_readJudge_8 ?_
  refine R_iconst_5 dX0_readJudge_9 ?_
  refine R_icmp_ge dX0_readJudge_10 (fun hb10 => ?_) (fun hb10 => ?_)
  · refine aL0 dX0_readJudge_26 ?_
    refine R_getR dX0_readJudge_27 fX0_15 hG.asz rfl ?_
    refine invV0 rfl dX0_readJudge_30 kX0_51 hG.tape (Nat.le_of_ble_eq_true rfl) (Nat.zero_le _) (Nat.zero_le _) (C_X8_refuse hG hT (fun h2 m2 w2 => konI ?_))
    have hw2 : Tw h2 (X + 21) w := hw.mv m2 (by omega)
    exact R_zret dX0_readJudge_33 rfl (by decide) (K _ _ m2.d (Or.inr ⟨rfl, _, if_pos (by omega), w2⟩))
  · refine aL0 dX0_readJudge_13 ?_
    refine R_getR dX0_readJudge_14 fX0_15 hG.asz rfl ?_
    refine R_sipush dX0_readJudge_17 (by decide) ?_
    refine invV1 rfl dX0_readJudge_20 kX0_57 hG.tape (Nat.le_of_ble_eq_true rfl) (Nat.zero_le _) (Nat.zero_le _) (C_X8_take hG hT (x := 1000) (by decide) (fun h3 m3 t3 => konI ?_))
    have hw3 : Tw h3 (X + 21) w := hw.mv m3 (by omega)
    refine R_ifB_ne dX0_readJudge_23 (fun hb23 => ?_) (fun hb23 => ?_)
    · have a1 := of_decide_eq_true hb23
      rw [if_pos a1] at t3
      refine aL0 dX0_readJudge_34 ?_
      refine R_getR dX0_readJudge_35 fX0_15 hG.asz rfl ?_
      refine R_sipush dX0_readJudge_38 (by decide) ?_
      refine R_bipush dX0_readJudge_41 (by decide) ?_
      refine invV2 rfl dX0_readJudge_43 kX0_38 hG.tape (Nat.le_of_ble_eq_true rfl) (Nat.zero_le _) (Nat.zero_le _) (C_X8_needNamed hG t3 (x := 1010) (hi := 99) (by decide) (fun h4 v4 m4 q4 => konI ?_))
      have hw4 : Tw h4 (X + 21) w := hw3.mv m4 (by omega)
      refine iS2 dX0_readJudge_46 ?_
      refine iL2 dX0_readJudge_47 ?_
      refine R_if_ge dX0_readJudge_48 (fun hb48 => ?_) (fun hb48 => ?_)
      · have c4 : 0 ≤ v4 := by omega
        obtain ⟨b4, k4, T4, r4⟩ := q4.yes (by omega)
        refine aL0 dX0_readJudge_55 ?_
        refine R_getR dX0_readJudge_56 fX0_15 hG.asz rfl ?_
        refine R_sipush dX0_readJudge_59 (by decide) ?_
        refine R_bipush dX0_readJudge_62 (by decide) ?_
        refine invV2 rfl dX0_readJudge_64 kX0_38 hG.tape (Nat.le_of_ble_eq_true rfl) (Nat.zero_le _) (Nat.zero_le _) (C_X8_needNamed hG T4 (x := 1002) (hi := 9) (by decide) (fun h5 v5 m5 q5 => konI ?_))
        have hw5 : Tw h5 (X + 21) w := hw4.mv m5 (by omega)
        refine iS3 dX0_readJudge_67 ?_
        refine iL3 dX0_readJudge_68 ?_
        refine R_if_ge dX0_readJudge_69 (fun hb69 => ?_) (fun hb69 => ?_)
        · have c5 : 0 ≤ v5 := by omega
          obtain ⟨b5, k5, T5, r5⟩ := q5.yes (by omega)
          refine aL0 dX0_readJudge_76 ?_
          refine R_getR dX0_readJudge_77 fX0_15 hG.asz rfl ?_
          refine R_sipush dX0_readJudge_80 (by decide) ?_
          refine R_bipush dX0_readJudge_83 (by decide) ?_
          refine R_iconst_0 dX0_readJudge_85 ?_
          refine invV3 rfl dX0_readJudge_86 kX0_61 hG.tape (Nat.le_of_ble_eq_true rfl) (Nat.zero_le _) (Nat.zero_le _) (C_X8_maybeNamed hG T5 (x := 1001) (hi := 99) (y := 0) (by decide) (by decide) (fun h6 v6 m6 q6 => konI ?_))
          have hw6 : Tw h6 (X + 21) w := hw5.mv m6 (by omega)
          refine iS4 dX0_readJudge_89 ?_
          refine iL4 dX0_readJudge_91 ?_
          refine R_if_ge dX0_readJudge_93 (fun hb93 => ?_) (fun hb93 => ?_)
          · have c6 : 0 ≤ v6 := by omega
            obtain ⟨b6, k6, T6, r6⟩ := q6.yes (by omega)
            refine aL0 dX0_readJudge_100 ?_
            refine R_getR dX0_readJudge_101 fX0_15 hG.asz rfl ?_
            refine R_sipush dX0_readJudge_104 (by decide) ?_
            refine R_bipush dX0_readJudge_107 (by decide) ?_
            refine R_iconst_0 dX0_readJudge_109 ?_
            refine invV3 rfl dX0_readJudge_110 kX0_61 hG.tape (Nat.le_of_ble_eq_true rfl) (Nat.zero_le _) (Nat.zero_le _) (C_X8_maybeNamed hG T6 (x := 1011) (hi := 99) (y := 0) (by decide) (by decide) (fun h7 v7 m7 q7 => konI ?_))
            have hw7 : Tw h7 (X + 21) w := hw6.mv m7 (by omega)
            refine iS5 dX0_readJudge_113 ?_
            refine iL5 dX0_readJudge_115 ?_
            refine R_if_ge dX0_readJudge_117 (fun hb117 => ?_) (fun hb117 => ?_)
            · have c7 : 0 ≤ v7 := by omega
              obtain ⟨b7, k7, T7, r7⟩ := q7.yes (by omega)
              refine aL0 dX0_readJudge_122 ?_
              refine R_getR dX0_readJudge_123 fX0_11.r hG.asz rfl ?_
              refine R_getR dX0_readJudge_126 fX0_65 hG.drf.o rfl ?_
              refine iL1 dX0_readJudge_129 ?_
              refine iL2 dX0_readJudge_130 ?_
              refine iastN dX0_readJudge_131 hG.drf.a2 rfl (by omega) ?_
              refine aL0 dX0_readJudge_132 ?_
              refine R_getR dX0_readJudge_133 fX0_11.r hG.asz rfl ?_
              refine R_getR dX0_readJudge_136 fX0_69 hG.drf.o rfl ?_
              refine iL1 dX0_readJudge_139 ?_
              refine iL3 dX0_readJudge_140 ?_
              refine iastN dX0_readJudge_141 hG.drf.a3 rfl (by omega) ?_
              refine aL0 dX0_readJudge_142 ?_
              refine R_getR dX0_readJudge_143 fX0_11.r hG.asz rfl ?_
              refine R_getR dX0_readJudge_146 fX0_72 hG.drf.o rfl ?_
              refine iL1 dX0_readJudge_149 ?_
              refine iL4 dX0_readJudge_150 ?_
              refine iastN dX0_readJudge_152 hG.drf.a1 rfl (by omega) ?_
              refine aL0 dX0_readJudge_153 ?_
              refine R_getR dX0_readJudge_154 fX0_11.r hG.asz rfl ?_
              refine R_getR dX0_readJudge_157 fX0_75 hG.drf.o rfl ?_
              refine iL1 dX0_readJudge_160 ?_
              refine iL5 dX0_readJudge_161 ?_
              refine iastN dX0_readJudge_163 hG.drf.a4 rfl (by omega) ?_
              refine aL0 dX0_readJudge_164 ?_
              refine R_getR dX0_readJudge_165 fX0_11.r hG.asz rfl ?_
              refine iL1 dX0_readJudge_168 ?_
              refine R_iconst_1 dX0_readJudge_169 ?_
              refine addV dX0_readJudge_170 (v := (((j + 1) : Nat) : Int)) (by rw [wid (by omega) (by omega)]; omega) ?_
              refine R_putI dX0_readJudge_171 fX0_54 hG.drf.o ?_
              refine R_iconst_1 dX0_readJudge_174 ?_
              exact R_zret dX0_readJudge_175 rfl (by decide) (K _ _ (((((((((m3.tr m4).tr m5).tr m6).tr m7).d.up (by omega)).up (by omega)).up (by omega)).up (by omega)).up (by omega)) (Or.inl ⟨rfl, _, _, (if_neg (by omega)).trans ((rdW_y a1).trans ((r4 _ _).trans ((r5 _ _).trans ((r6 _ _).trans (r7 _ _))))), T7.d (by rw [updH_a (by omega), updH_a (by omega), updH_a (by omega), updH_a (by omega), updH_a (by omega)]) (by rw [updH_a (by omega), updH_a (by omega), updH_a (by omega), updH_a (by omega), updH_a (by omega)]) (by rw [updH_a (by omega), updH_a (by omega), updH_a (by omega), updH_a (by omega), updH_a (by omega)]), hw7.jd hj (by omega) _ _ _ _, hf.jd (by omega) (by omega) (by omega) (by omega) (by omega)⟩))
            · obtain ⟨b7, f7, w7, r7⟩ := q7.no (by omega)
              refine R_iconst_0 dX0_readJudge_120 ?_
              exact R_zret dX0_readJudge_121 rfl (by decide) (K _ _ ((((m3.tr m4).tr m5).tr m6).tr m7).d (Or.inr ⟨rfl, _, (if_neg (by omega)).trans ((rdW_y a1).trans ((r4 _ _).trans ((r5 _ _).trans ((r6 _ _).trans (r7 _ _))))), w7⟩))
          · obtain ⟨b6, f6, w6, r6⟩ := q6.no (by omega)
            refine R_iconst_m1 dX0_readJudge_96 ?_
            refine R_goto dX0_readJudge_97 ?_
            refine iS5 dX0_readJudge_113 ?_
            refine iL5 dX0_readJudge_115 ?_
            refine R_if_ge dX0_readJudge_117 (fun hb => absurd hb (by decide)) (fun _ => ?_)
            refine R_iconst_0 dX0_readJudge_120 ?_
            exact R_zret dX0_readJudge_121 rfl (by decide) (K _ _ (((m3.tr m4).tr m5).tr m6).d (Or.inr ⟨rfl, _, (if_neg (by omega)).trans ((rdW_y a1).trans ((r4 _ _).trans ((r5 _ _).trans (r6 _ _)))), w6⟩))
        · obtain ⟨b5, f5, w5, r5⟩ := q5.no (by omega)
          refine R_iconst_m1 dX0_readJudge_72 ?_
          refine R_goto dX0_readJudge_73 ?_
          refine iS4 dX0_readJudge_89 ?_
          refine iL4 dX0_readJudge_91 ?_
          refine R_if_ge dX0_readJudge_93 (fun hb => absurd hb (by decide)) (fun _ => ?_)
          refine R_iconst_m1 dX0_readJudge_96 ?_
          refine R_goto dX0_readJudge_97 ?_
          refine iS5 dX0_readJudge_113 ?_
          refine iL5 dX0_readJudge_115 ?_
          refine R_if_ge dX0_readJudge_117 (fun hb => absurd hb (by decide)) (fun _ => ?_)
          refine R_iconst_0 dX0_readJudge_120 ?_
          exact R_zret dX0_readJudge_121 rfl (by decide) (K _ _ ((m3.tr m4).tr m5).d (Or.inr ⟨rfl, _, (if_neg (by omega)).trans ((rdW_y a1).trans ((r4 _ _).trans (r5 _ _))), w5⟩))
      · obtain ⟨b4, f4, w4, r4⟩ := q4.no (by omega)
        refine R_iconst_m1 dX0_readJudge_51 ?_
        refine R_goto dX0_readJudge_52 ?_
        refine iS3 dX0_readJudge_67 ?_
        refine iL3 dX0_readJudge_68 ?_
        refine R_if_ge dX0_readJudge_69 (fun hb => absurd hb (by decide)) (fun _ => ?_)
        refine R_iconst_m1 dX0_readJudge_72 ?_
        refine R_goto dX0_readJudge_73 ?_
        refine iS4 dX0_readJudge_89 ?_
        refine iL4 dX0_readJudge_91 ?_
        refine R_if_ge dX0_readJudge_93 (fun hb => absurd hb (by decide)) (fun _ => ?_)
        refine R_iconst_m1 dX0_readJudge_96 ?_
        refine R_goto dX0_readJudge_97 ?_
        refine iS5 dX0_readJudge_113 ?_
        refine iL5 dX0_readJudge_115 ?_
        refine R_if_ge dX0_readJudge_117 (fun hb => absurd hb (by decide)) (fun _ => ?_)
        refine R_iconst_0 dX0_readJudge_120 ?_
        exact R_zret dX0_readJudge_121 rfl (by decide) (K _ _ (m3.tr m4).d (Or.inr ⟨rfl, _, (if_neg (by omega)).trans ((rdW_y a1).trans (r4 _ _)), w4⟩))
    · have a1 := of_decide_eq_false hb23
      rw [if_neg a1] at t3
      refine aL0 dX0_readJudge_26 ?_
      refine R_getR dX0_readJudge_27 fX0_15 hG.asz rfl ?_
      refine invV0 rfl dX0_readJudge_30 kX0_51 hG.tape (Nat.le_of_ble_eq_true rfl) (Nat.zero_le _) (Nat.zero_le _) (C_X8_refuse hG t3 (fun h8 m8 w8 => konI ?_))
      have hw8 : Tw h8 (X + 21) w := hw3.mv m8 (by omega)
      exact R_zret dX0_readJudge_33 rfl (by decide) (K _ _ (m3.tr m8).d (Or.inr ⟨rfl, _, (if_neg (by omega)).trans (rdW_n a1), w8⟩))
set_option maxHeartbeats 400000 in
theorem C_X0_readCase {d : Nat} {g : Gs} {h : Hc} {P : Po} {X : Nat} {b : Nat → Int} {L N k : Nat} (hG : ClG g X) (hT : TpC h X b L N k) {w : Nat → Int} (hw : Tw h (X + 21) w) (hf : WF w) (K : ∀ h' (v : Int), MvD X h h' → LnC h' X b L N v (asCas (thT b L) w k) → P (.inl (some (vI v))) g h') : Call (d + 3) 0 0 mX0_readCase [vR (X + 71)] g h P := by
  have hkN := hT.2.1
  have hN4 := hT.1
  have hjd := hf.jud
  have hcs := hf.cas
  obtain ⟨j, hj⟩ : ∃ j : Nat, w 1 = (j : Int) := ⟨(w 1).toNat, by omega⟩
  refine Call_of rfl ⟨by decide +kernel, rfl⟩ (Nat.le_of_ble_eq_true rfl) rfl ?_
  refine aL0 dX0_readCase_0 ?_
  refine R_getR dX0_readCase_1 fX0_11.r hG.asz rfl ?_
  refine R_getI dX0_readCase_4 fX0_78.r hG.drf.o ?_
  refine topV (v := w 1) (hw.s1) ?_
  have hq1 := hf.cas
  refine topV (v := ((j : Nat) : Int)) (hj) ?_
  refine iS1 dX0_readCase_7 ?_
  refine iL1 dX0_readCase_8 ?_
  refine R_bipush dX0_readCase_9 (by decide) ?_
  refine R_icmp_ge dX0_readCase_11 (fun hb11 => ?_) (fun hb11 => ?_)
  · refine aL0 dX0_readCase_27 ?_
    refine R_getR dX0_readCase_28 fX0_15 hG.asz rfl ?_
    refine invV0 rfl dX0_readCase_31 kX0_51 hG.tape (Nat.le_of_ble_eq_true rfl) (Nat.zero_le _) (Nat.zero_le _) (C_X8_refuse hG hT (fun h2 m2 w2 => konI ?_))
    have hw2 : Tw h2 (X + 21) w := hw.mv m2 (by omega)
    exact R_zret dX0_readCase_34 rfl (by decide) (K _ _ m2.d (Or.inr ⟨rfl, _, if_pos (by omega), w2⟩))
  · refine aL0 dX0_readCase_14 ?_
    refine R_getR dX0_readCase_15 fX0_15 hG.asz rfl ?_
    refine R_sipush dX0_readCase_18 (by decide) ?_
    refine invV1 rfl dX0_readCase_21 kX0_57 hG.tape (Nat.le_of_ble_eq_true rfl) (Nat.zero_le _) (Nat.zero_le _) (C_X8_take hG hT (x := 1012) (by decide) (fun h3 m3 t3 => konI ?_))
    have hw3 : Tw h3 (X + 21) w := hw.mv m3 (by omega)
    refine R_ifB_ne dX0_readCase_24 (fun hb24 => ?_) (fun hb24 => ?_)
    · have a1 := of_decide_eq_true hb24
      rw [if_pos a1] at t3
      refine aL0 dX0_readCase_35 ?_
      refine R_getR dX0_readCase_36 fX0_15 hG.asz rfl ?_
      refine R_sipush dX0_readCase_39 (by decide) ?_
      refine R_sipush dX0_readCase_42 (by decide) ?_
      refine invV2 rfl dX0_readCase_45 kX0_81 hG.tape (Nat.le_of_ble_eq_true rfl) (Nat.zero_le _) (Nat.zero_le _) (C_X8_needFrom hG t3 (lo := 1024) (hi := 1029) (by decide) (by decide) (fun h4 v4 m4 q4 => konI ?_))
      have hw4 : Tw h4 (X + 21) w := hw3.mv m4 (by omega)
      refine iS2 dX0_readCase_48 ?_
      refine iL2 dX0_readCase_49 ?_
      refine R_if_ge dX0_readCase_50 (fun hb50 => ?_) (fun hb50 => ?_)
      · have c4 : 0 ≤ v4 := by omega
        obtain ⟨b4, k4, T4, r4⟩ := q4.yes (by omega)
        refine aL0 dX0_readCase_57 ?_
        refine R_getR dX0_readCase_58 fX0_15 hG.asz rfl ?_
        refine R_sipush dX0_readCase_61 (by decide) ?_
        refine R_bipush dX0_readCase_64 (by decide) ?_
        refine invV2 rfl dX0_readCase_66 kX0_38 hG.tape (Nat.le_of_ble_eq_true rfl) (Nat.zero_le _) (Nat.zero_le _) (C_X8_needNamed hG T4 (x := 1004) (hi := 99) (by decide) (fun h5 v5 m5 q5 => konI ?_))
        have hw5 : Tw h5 (X + 21) w := hw4.mv m5 (by omega)
        refine iS3 dX0_readCase_69 ?_
        refine iL3 dX0_readCase_70 ?_
        refine R_if_ge dX0_readCase_71 (fun hb71 => ?_) (fun hb71 => ?_)
        · have c5 : 0 ≤ v5 := by omega
          obtain ⟨b5, k5, T5, r5⟩ := q5.yes (by omega)
          refine aL0 dX0_readCase_78 ?_
          refine R_getR dX0_readCase_79 fX0_15 hG.asz rfl ?_
          refine R_sipush dX0_readCase_82 (by decide) ?_
          refine R_bipush dX0_readCase_85 (by decide) ?_
          refine R_iconst_1 dX0_readCase_87 ?_
          refine invV3 rfl dX0_readCase_88 kX0_61 hG.tape (Nat.le_of_ble_eq_true rfl) (Nat.zero_le _) (Nat.zero_le _) (C_X8_maybeNamed hG T5 (x := 1005) (hi := 99) (y := 1) (by decide) (by decide) (fun h6 v6 m6 q6 => konI ?_))
          have hw6 : Tw h6 (X + 21) w := hw5.mv m6 (by omega)
          refine iS4 dX0_readCase_91 ?_
          refine iL4 dX0_readCase_93 ?_
          refine R_if_ge dX0_readCase_95 (fun hb95 => ?_) (fun hb95 => ?_)
          · have c6 : 0 ≤ v6 := by omega
            obtain ⟨b6, k6, T6, r6⟩ := q6.yes (by omega)
            refine aL0 dX0_readCase_100 ?_
            refine R_getR dX0_readCase_101 fX0_15 hG.asz rfl ?_
            refine R_sipush dX0_readCase_104 (by decide) ?_
            refine invV1 rfl dX0_readCase_107 kX0_57 hG.tape (Nat.le_of_ble_eq_true rfl) (Nat.zero_le _) (Nat.zero_le _) (C_X8_take hG T6 (x := 1016) (by decide) (fun h7 m7 t7 => konI ?_))
            have hw7 : Tw h7 (X + 21) w := hw6.mv m7 (by omega)
            refine iS5 dX0_readCase_110 ?_
            refine iL5 dX0_readCase_112 ?_
            refine R_ifB_eq dX0_readCase_114 (fun hb114 => ?_) (fun hb114 => ?_)
            · have a5 := of_decide_eq_false hb114
              rw [if_neg a5] at t7
              refine eqI5 (v := 0) (by rw [decide_eq_false a5]; rfl) ?_
              refine R_iconst_m1 dX0_readCase_130 ?_
              refine iS6 dX0_readCase_131 ?_
              refine iL5 dX0_readCase_133 ?_
              refine R_if_eq dX0_readCase_135 (fun _ => ?_) (fun hb => absurd hb (by decide))
              refine aL0 dX0_readCase_145 ?_
              refine R_getR dX0_readCase_146 fX0_11.r hG.asz rfl ?_
              refine R_getR dX0_readCase_149 fX0_88 hG.drf.o rfl ?_
              refine iL1 dX0_readCase_152 ?_
              refine iL2 dX0_readCase_153 ?_
              refine iastN dX0_readCase_154 hG.drf.a5 rfl (by omega) ?_
              refine aL0 dX0_readCase_155 ?_
              refine R_getR dX0_readCase_156 fX0_11.r hG.asz rfl ?_
              refine R_getR dX0_readCase_159 fX0_91 hG.drf.o rfl ?_
              refine iL1 dX0_readCase_162 ?_
              refine iL3 dX0_readCase_163 ?_
              refine iastN dX0_readCase_164 hG.drf.a6 rfl (by omega) ?_
              refine aL0 dX0_readCase_165 ?_
              refine R_getR dX0_readCase_166 fX0_11.r hG.asz rfl ?_
              refine R_getR dX0_readCase_169 fX0_94 hG.drf.o rfl ?_
              refine iL1 dX0_readCase_172 ?_
              refine iL4 dX0_readCase_173 ?_
              refine iastN dX0_readCase_175 hG.drf.a7 rfl (by omega) ?_
              refine aL0 dX0_readCase_176 ?_
              refine R_getR dX0_readCase_177 fX0_11.r hG.asz rfl ?_
              refine R_getR dX0_readCase_180 fX0_97 hG.drf.o rfl ?_
              refine iL1 dX0_readCase_183 ?_
              refine iL6 dX0_readCase_184 ?_
              refine iastN dX0_readCase_186 hG.drf.a8 rfl (by omega) ?_
              refine aL0 dX0_readCase_187 ?_
              refine R_getR dX0_readCase_188 fX0_11.r hG.asz rfl ?_
              refine iL1 dX0_readCase_191 ?_
              refine R_iconst_1 dX0_readCase_192 ?_
              refine addV dX0_readCase_193 (v := (((j + 1) : Nat) : Int)) (by rw [wid (by omega) (by omega)]; omega) ?_
              refine R_putI dX0_readCase_194 fX0_78 hG.drf.o ?_
              refine R_iconst_1 dX0_readCase_197 ?_
              exact R_zret dX0_readCase_198 rfl (by decide) (K _ _ (((((((((m3.tr m4).tr m5).tr m6).tr m7).d.up (by omega)).up (by omega)).up (by omega)).up (by omega)).up (by omega)) (Or.inl ⟨rfl, _, _, (if_neg (by omega)).trans ((rdW_y a1).trans ((r4 _ _).trans ((r5 _ _).trans ((r6 _ _).trans (rdM_n a5))))), t7.d (by rw [updH_a (by omega), updH_a (by omega), updH_a (by omega), updH_a (by omega), updH_a (by omega)]) (by rw [updH_a (by omega), updH_a (by omega), updH_a (by omega), updH_a (by omega), updH_a (by omega)]) (by rw [updH_a (by omega), updH_a (by omega), updH_a (by omega), updH_a (by omega), updH_a (by omega)]), hw7.cs hf hj (by omega) _ _ _ _, hf.cs (by omega) (by omega) (by omega) (by omega) (by omega)⟩))
            · have a5 := of_decide_eq_true hb114
              rw [if_pos a5] at t7
              refine eqI5 (v := 1) (by rw [decide_eq_true a5]; rfl) ?_
              refine aL0 dX0_readCase_117 ?_
              refine R_getR dX0_readCase_118 fX0_15 hG.asz rfl ?_
              refine iL1 dX0_readCase_121 ?_
              refine R_iconst_1 dX0_readCase_122 ?_
              refine subV dX0_readCase_123 (wid (by omega) (by omega)) ?_
              refine invV1 rfl dX0_readCase_124 kX0_84 hG.tape (Nat.le_of_ble_eq_true rfl) (Nat.zero_le _) (Nat.zero_le _) (C_X8_needNumber hG t7 (hi := ((j : Nat) : Int) - 1) (fun h8 v8 m8 q8 => konI ?_))
              have hw8 : Tw h8 (X + 21) w := hw7.mv m8 (by omega)
              refine R_goto dX0_readCase_127 ?_
              refine iS6 dX0_readCase_131 ?_
              refine iL5 dX0_readCase_133 ?_
              refine R_if_eq dX0_readCase_135 (fun hb => absurd hb (by decide)) (fun _ => ?_)
              refine iL6 dX0_readCase_138 ?_
              refine R_if_ge dX0_readCase_140 (fun hb140 => ?_) (fun hb140 => ?_)
              · have c8 : 0 ≤ v8 := by omega
                obtain ⟨b8, k8, T8, r8⟩ := q8.yes (by omega)
                rw [← hj] at r8
                refine aL0 dX0_readCase_145 ?_
                refine R_getR dX0_readCase_146 fX0_11.r hG.asz rfl ?_
                refine R_getR dX0_readCase_149 fX0_88 hG.drf.o rfl ?_
                refine iL1 dX0_readCase_152 ?_
                refine iL2 dX0_readCase_153 ?_
                refine iastN dX0_readCase_154 hG.drf.a5 rfl (by omega) ?_
                refine aL0 dX0_readCase_155 ?_
                refine R_getR dX0_readCase_156 fX0_11.r hG.asz rfl ?_
                refine R_getR dX0_readCase_159 fX0_91 hG.drf.o rfl ?_
                refine iL1 dX0_readCase_162 ?_
                refine iL3 dX0_readCase_163 ?_
                refine iastN dX0_readCase_164 hG.drf.a6 rfl (by omega) ?_
                refine aL0 dX0_readCase_165 ?_
                refine R_getR dX0_readCase_166 fX0_11.r hG.asz rfl ?_
                refine R_getR dX0_readCase_169 fX0_94 hG.drf.o rfl ?_
                refine iL1 dX0_readCase_172 ?_
                refine iL4 dX0_readCase_173 ?_
                refine iastN dX0_readCase_175 hG.drf.a7 rfl (by omega) ?_
                refine aL0 dX0_readCase_176 ?_
                refine R_getR dX0_readCase_177 fX0_11.r hG.asz rfl ?_
                refine R_getR dX0_readCase_180 fX0_97 hG.drf.o rfl ?_
                refine iL1 dX0_readCase_183 ?_
                refine iL6 dX0_readCase_184 ?_
                refine iastN dX0_readCase_186 hG.drf.a8 rfl (by omega) ?_
                refine aL0 dX0_readCase_187 ?_
                refine R_getR dX0_readCase_188 fX0_11.r hG.asz rfl ?_
                refine iL1 dX0_readCase_191 ?_
                refine R_iconst_1 dX0_readCase_192 ?_
                refine addV dX0_readCase_193 (v := (((j + 1) : Nat) : Int)) (by rw [wid (by omega) (by omega)]; omega) ?_
                refine R_putI dX0_readCase_194 fX0_78 hG.drf.o ?_
                refine R_iconst_1 dX0_readCase_197 ?_
                exact R_zret dX0_readCase_198 rfl (by decide) (K _ _ ((((((((((m3.tr m4).tr m5).tr m6).tr m7).tr m8).d.up (by omega)).up (by omega)).up (by omega)).up (by omega)).up (by omega)) (Or.inl ⟨rfl, _, _, (if_neg (by omega)).trans ((rdW_y a1).trans ((r4 _ _).trans ((r5 _ _).trans ((r6 _ _).trans ((rdM_y a5).trans (r8 _ _)))))), T8.d (by rw [updH_a (by omega), updH_a (by omega), updH_a (by omega), updH_a (by omega), updH_a (by omega)]) (by rw [updH_a (by omega), updH_a (by omega), updH_a (by omega), updH_a (by omega), updH_a (by omega)]) (by rw [updH_a (by omega), updH_a (by omega), updH_a (by omega), updH_a (by omega), updH_a (by omega)]), hw8.cs hf hj (by omega) _ _ _ _, hf.cs (by omega) (by omega) (by omega) (by omega) (by omega)⟩))
              · obtain ⟨b8, f8, w8, r8⟩ := q8.no (by omega)
                rw [← hj] at r8
                refine R_iconst_0 dX0_readCase_143 ?_
                exact R_zret dX0_readCase_144 rfl (by decide) (K _ _ (((((m3.tr m4).tr m5).tr m6).tr m7).tr m8).d (Or.inr ⟨rfl, _, (if_neg (by omega)).trans ((rdW_y a1).trans ((r4 _ _).trans ((r5 _ _).trans ((r6 _ _).trans ((rdM_y a5).trans (r8 _ _)))))), w8⟩))
          · obtain ⟨b6, f6, w6, r6⟩ := q6.no (by omega)
            refine R_iconst_0 dX0_readCase_98 ?_
            exact R_zret dX0_readCase_99 rfl (by decide) (K _ _ (((m3.tr m4).tr m5).tr m6).d (Or.inr ⟨rfl, _, (if_neg (by omega)).trans ((rdW_y a1).trans ((r4 _ _).trans ((r5 _ _).trans (r6 _ _)))), w6⟩))
        · obtain ⟨b5, f5, w5, r5⟩ := q5.no (by omega)
          refine R_iconst_m1 dX0_readCase_74 ?_
          refine R_goto dX0_readCase_75 ?_
          refine iS4 dX0_readCase_91 ?_
          refine iL4 dX0_readCase_93 ?_
          refine R_if_ge dX0_readCase_95 (fun hb => absurd hb (by decide)) (fun _ => ?_)
          refine R_iconst_0 dX0_readCase_98 ?_
          exact R_zret dX0_readCase_99 rfl (by decide) (K _ _ ((m3.tr m4).tr m5).d (Or.inr ⟨rfl, _, (if_neg (by omega)).trans ((rdW_y a1).trans ((r4 _ _).trans (r5 _ _))), w5⟩))
      · obtain ⟨b4, f4, w4, r4⟩ := q4.no (by omega)
        refine R_iconst_m1 dX0_readCase_53 ?_
        refine R_goto dX0_readCase_54 ?_
        refine iS3 dX0_readCase_69 ?_
        refine iL3 dX0_readCase_70 ?_
        refine R_if_ge dX0_readCase_71 (fun hb => absurd hb (by decide)) (fun _ => ?_)
        refine R_iconst_m1 dX0_readCase_74 ?_
        refine R_goto dX0_readCase_75 ?_
        refine iS4 dX0_readCase_91 ?_
        refine iL4 dX0_readCase_93 ?_
        refine R_if_ge dX0_readCase_95 (fun hb => absurd hb (by decide)) (fun _ => ?_)
        refine R_iconst_0 dX0_readCase_98 ?_
        exact R_zret dX0_readCase_99 rfl (by decide) (K _ _ (m3.tr m4).d (Or.inr ⟨rfl, _, (if_neg (by omega)).trans ((rdW_y a1).trans (r4 _ _)), w4⟩))
    · have a1 := of_decide_eq_false hb24
      rw [if_neg a1] at t3
      refine aL0 dX0_readCase_27 ?_
      refine R_getR dX0_readCase_28 fX0_15 hG.asz rfl ?_
      refine invV0 rfl dX0_readCase_31 kX0_51 hG.tape (Nat.le_of_ble_eq_true rfl) (Nat.zero_le _) (Nat.zero_le _) (C_X8_refuse hG t3 (fun h9 m9 w9 => konI ?_))
      have hw9 : Tw h9 (X + 21) w := hw3.mv m9 (by omega)
      exact R_zret dX0_readCase_34 rfl (by decide) (K _ _ (m3.tr m9).d (Or.inr ⟨rfl, _, (if_neg (by omega)).trans (rdW_n a1), w9⟩))
theorem LnC.of {h : Hc} {X : Nat} {b : Nat → Int} {L N : Nat} {v : Int} {R R' : Nat ⊕ (Nat × (Nat → Int))} (q : LnC h X b L N v R) (e : R' = R) : LnC h X b L N v R' := by rw [e]; exact q
theorem LnC.b {h : Hc} {X : Nat} {b : Nat → Int} {L N : Nat} {v : Int} {R : Nat ⊕ (Nat × (Nat → Int))} (q : LnC h X b L N v R) : v = 0 ∨ v = 1 := q.elim (fun x => Or.inr x.1) (fun x => Or.inl x.1)
theorem rl_def {a : Int} (h0 : ¬ a = 1000) (h1 : ¬ a = 1012) (h2 : ¬ a = 1013) (h3 : ¬ a = 1014) (h4 : ¬ a = 1006) (h5 : ¬ a = 1015) : (if a < 1000 ∨ 1015 < a then ((7 : Nat) : Int) + 168 else ((7 : Nat) : Int) + (#[77, 168, 168, 168, 168, 168, 97, 168, 168, 168, 168, 168, 82, 87, 92, 132] : Array Int).getD (a - 1000).toNat 168) = ((175 : Nat) : Int) := by
  by_cases h : a < 1000 ∨ 1015 < a
  · rw [if_pos h]; rfl
  · rw [if_neg h]
    have : a = 1001 ∨ a = 1002 ∨ a = 1003 ∨ a = 1004 ∨ a = 1005 ∨ a = 1007 ∨ a = 1008 ∨ a = 1009 ∨ a = 1010 ∨ a = 1011 := by omega
    rcases this with rfl | rfl | rfl | rfl | rfl | rfl | rfl | rfl | rfl | rfl <;> rfl
theorem Wr.d {h h' : Hc} {X : Nat} {b : Nat → Int} {L f : Nat} (q : Wr h X b L f) (e : h' (X + 1) = h (X + 1)) : Wr h' X b L f := by unfold Wr; rw [e]; exact q
set_option maxHeartbeats 400000 in
theorem C_X0_readLine {d : Nat} {g : Gs} {h : Hc} {P : Po} {X : Nat} {b : Nat → Int} {L N k : Nat} (hG : ClG g X) (hT : TpC h X b L N k) {w : Nat → Int} (hw : Tw h (X + 21) w) (hf : WF w) (K : ∀ h' (v : Int), MvD X h h' → LnC h' X b L N v (asLine (thT b L) w k) → P (.inl (some (vI v))) g h') : Call (d + 4) 0 0 mX0_readLine [vR (X + 71)] g h P := by
  have hkN := hT.2.1
  have hN4 := hT.1
  have hjd := hf.jud
  have hcs := hf.cas
  refine Call_of rfl ⟨by decide +kernel, rfl⟩ (Nat.le_of_ble_eq_true rfl) rfl ?_
  refine aL0 dX0_readLine_0 ?_
  refine R_getR dX0_readLine_1 fX0_15 hG.asz rfl ?_
  refine invV0 rfl dX0_readLine_4 kX0_19 hG.tape (Nat.le_of_ble_eq_true rfl) (Nat.zero_le _) (Nat.zero_le _) (C_X8_here hG hT (konI ?_))
  by_cases cc0 : thT b L k = 1000
  · refine topV (v := 1000) cc0 ?_
    refine R_tsw (tt := 84) dX0_readLine_7 (by decide) (by decide) ?_
    refine aL0 dX0_readLine_84 ?_
    refine invV0 rfl dX0_readLine_85 kX0_25 hG.asz (Nat.le_of_ble_eq_true rfl) (Nat.zero_le _) (Nat.zero_le _) (C_X0_readJudge hG hT hw hf (fun h1 v1 m1 q1 => konI ?_))
    exact R_zret dX0_readLine_88 rfl (q1.b) (K _ _ m1 (q1.of (by unfold asLine asJdg; rw [if_pos cc0, rdW_y cc0])))
  by_cases cc1 : thT b L k = 1012
  · refine topV (v := 1012) cc1 ?_
    refine R_tsw (tt := 89) dX0_readLine_7 (by decide) (by decide) ?_
    refine aL0 dX0_readLine_89 ?_
    refine invV0 rfl dX0_readLine_90 kX0_29 hG.asz (Nat.le_of_ble_eq_true rfl) (Nat.zero_le _) (Nat.zero_le _) (C_X0_readCase hG hT hw hf (fun h1 v1 m1 q1 => konI ?_))
    exact R_zret dX0_readLine_93 rfl (q1.b) (K _ _ m1 (q1.of (by unfold asLine asCas; rw [if_neg cc0, if_pos cc1, rdW_y cc1])))
  by_cases cc2 : thT b L k = 1013
  · refine topV (v := 1013) cc2 ?_
    refine R_tsw (tt := 94) dX0_readLine_7 (by decide) (by decide) ?_
    refine aL0 dX0_readLine_94 ?_
    refine invV0 rfl dX0_readLine_95 kX0_32 hG.asz (Nat.le_of_ble_eq_true rfl) (Nat.zero_le _) (Nat.zero_le _) (C_X0_readPlace hG hT hw hf (fun h1 v1 m1 q1 => konI ?_))
    exact R_zret dX0_readLine_98 rfl (q1.b) (K _ _ m1 (q1.of (by unfold asLine asPla; rw [if_neg cc0, if_neg cc1, if_pos cc2, rdW_y cc2])))
  by_cases cc3 : thT b L k = 1014
  · refine topV (v := 1014) cc3 ?_
    refine R_tsw (tt := 99) dX0_readLine_7 (by decide) (by decide) ?_
    refine aL0 dX0_readLine_99 ?_
    refine invV0 rfl dX0_readLine_100 kX0_35 hG.asz (Nat.le_of_ble_eq_true rfl) (Nat.zero_le _) (Nat.zero_le _) (C_X0_readInn hG hT hw hf (fun h1 v1 m1 q1 => konI ?_))
    exact R_zret dX0_readLine_103 rfl (q1.b) (K _ _ m1 (q1.of (by unfold asLine asInn; rw [if_neg cc0, if_neg cc1, if_neg cc2, if_pos cc3, rdW_y cc3])))
  by_cases cc4 : thT b L k = 1006
  · refine topV (v := 1006) cc4 ?_
    refine R_tsw (tt := 104) dX0_readLine_7 (by decide) (by decide) ?_
    refine aL0 dX0_readLine_104 ?_
    refine R_getR dX0_readLine_105 fX0_11.r hG.asz rfl ?_
    refine aL0 dX0_readLine_108 ?_
    refine R_getR dX0_readLine_109 fX0_15 hG.asz rfl ?_
    refine R_sipush dX0_readLine_112 (by decide) ?_
    refine R_bipush dX0_readLine_115 (by decide) ?_
    refine invV2 rfl dX0_readLine_117 kX0_38 hG.tape (Nat.le_of_ble_eq_true rfl) (Nat.zero_le _) (Nat.zero_le _) (C_X8_needNamed hG hT (x := 1006) (hi := 11) (by decide) (fun h1 v1 m1 q1 => konI ?_))
    have hw1 : Tw h1 (X + 21) w := hw.mv m1 (by omega)
    refine R_putI dX0_readLine_120 fX0_42 hG.drf.o ?_
    refine aL0 dX0_readLine_123 ?_
    refine R_getR dX0_readLine_124 fX0_11.r hG.asz rfl ?_
    refine R_getI dX0_readLine_127 fX0_42.r hG.drf.o ?_
    refine topV (v := v1) (updH_s _ _ _ _) ?_
    refine R_if_lt dX0_readLine_130 (fun hb130 => ?_) (fun hb130 => ?_)
    · obtain ⟨b1, f1, w1, r1⟩ := q1.no (by omega)
      refine R_iconst_0 dX0_readLine_137 ?_
      exact R_zret dX0_readLine_138 rfl (by decide) (K _ _ (m1.d.up (by omega)) (Or.inr ⟨rfl, _, (show asLine (thT b L) w k = rdW (thT b L) k 1006 (fun k => rdN (thT b L) k 0 11 fun n k => .inr (k, updW w 4 n)) by unfold asLine; rw [if_neg cc0, if_neg cc1, if_neg cc2, if_neg cc3, if_pos cc4, rdW_y cc4]).trans (r1 _ _), w1.d (updH_a (by omega))⟩))
    · have c1 : 0 ≤ v1 := by omega
      obtain ⟨b1, k1, T1, r1⟩ := q1.yes (by omega)
      refine R_iconst_1 dX0_readLine_133 ?_
      refine R_goto dX0_readLine_134 ?_
      exact R_zret dX0_readLine_138 rfl (by decide) (K _ _ (m1.d.up (by omega)) (Or.inl ⟨rfl, _, _, (show asLine (thT b L) w k = rdW (thT b L) k 1006 (fun k => rdN (thT b L) k 0 11 fun n k => .inr (k, updW w 4 n)) by unfold asLine; rw [if_neg cc0, if_neg cc1, if_neg cc2, if_neg cc3, if_pos cc4, rdW_y cc4]).trans (r1 _ _), T1.d (updH_a (by omega)) (updH_a (by omega)) (updH_a (by omega)), hw1.uho, hf.uho (by omega)⟩))
  by_cases cc5 : thT b L k = 1015
  · refine topV (v := 1015) cc5 ?_
    refine R_tsw (tt := 139) dX0_readLine_7 (by decide) (by decide) ?_
    refine aL0 dX0_readLine_139 ?_
    refine R_getR dX0_readLine_140 fX0_11.r hG.asz rfl ?_
    refine aL0 dX0_readLine_143 ?_
    refine R_getR dX0_readLine_144 fX0_15 hG.asz rfl ?_
    refine R_sipush dX0_readLine_147 (by decide) ?_
    refine R_sipush dX0_readLine_150 (by decide) ?_
    refine invV2 rfl dX0_readLine_153 kX0_38 hG.tape (Nat.le_of_ble_eq_true rfl) (Nat.zero_le _) (Nat.zero_le _) (C_X8_needNamed hG hT (x := 1015) (hi := 999) (by decide) (fun h2 v2 m2 q2 => konI ?_))
    have hw2 : Tw h2 (X + 21) w := hw.mv m2 (by omega)
    refine R_putI dX0_readLine_156 fX0_48 hG.drf.o ?_
    refine aL0 dX0_readLine_159 ?_
    refine R_getR dX0_readLine_160 fX0_11.r hG.asz rfl ?_
    refine R_getI dX0_readLine_163 fX0_48.r hG.drf.o ?_
    refine topV (v := v2) (updH_s _ _ _ _) ?_
    refine R_if_lt dX0_readLine_166 (fun hb166 => ?_) (fun hb166 => ?_)
    · obtain ⟨b2, f2, w2, r2⟩ := q2.no (by omega)
      refine R_iconst_0 dX0_readLine_173 ?_
      exact R_zret dX0_readLine_174 rfl (by decide) (K _ _ (m2.d.up (by omega)) (Or.inr ⟨rfl, _, (show asLine (thT b L) w k = rdW (thT b L) k 1015 (fun k => rdN (thT b L) k 0 999 fun n k => .inr (k, updW w 5 n)) by unfold asLine; rw [if_neg cc0, if_neg cc1, if_neg cc2, if_neg cc3, if_neg cc4, if_pos cc5, rdW_y cc5]).trans (r2 _ _), w2.d (updH_a (by omega))⟩))
    · have c2 : 0 ≤ v2 := by omega
      obtain ⟨b2, k2, T2, r2⟩ := q2.yes (by omega)
      refine R_iconst_1 dX0_readLine_169 ?_
      refine R_goto dX0_readLine_170 ?_
      exact R_zret dX0_readLine_174 rfl (by decide) (K _ _ (m2.d.up (by omega)) (Or.inl ⟨rfl, _, _, (show asLine (thT b L) w k = rdW (thT b L) k 1015 (fun k => rdN (thT b L) k 0 999 fun n k => .inr (k, updW w 5 n)) by unfold asLine; rw [if_neg cc0, if_neg cc1, if_neg cc2, if_neg cc3, if_neg cc4, if_pos cc5, rdW_y cc5]).trans (r2 _ _), T2.d (updH_a (by omega)) (updH_a (by omega)) (updH_a (by omega)), hw2.uda, hf.uda (by omega)⟩))
  refine R_tsw (tt := 175) dX0_readLine_7 (rl_def cc0 cc1 cc2 cc3 cc4 cc5) (by decide) ?_
  refine aL0 dX0_readLine_175 ?_
  refine R_getR dX0_readLine_176 fX0_15 hG.asz rfl ?_
  refine invV0 rfl dX0_readLine_179 kX0_51 hG.tape (Nat.le_of_ble_eq_true rfl) (Nat.zero_le _) (Nat.zero_le _) (C_X8_refuse hG hT (fun h3 m3 w3 => konI ?_))
  have hw3 : Tw h3 (X + 21) w := hw.mv m3 (by omega)
  exact R_zret dX0_readLine_182 rfl (by decide) (K _ _ m3.d (Or.inr ⟨rfl, _, (by unfold asLine; rw [if_neg cc0, if_neg cc1, if_neg cc2, if_neg cc3, if_neg cc4, if_neg cc5]), w3⟩))
