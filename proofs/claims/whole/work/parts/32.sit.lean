/-! THE SITTING -/
def sit (t c r f : Nat) : Nat → Prop := fun q => (t ≤ q ∧ q < t + 16) ∨ q = c + 1 ∨ q = r + 5 ∨ q = f
def tws (t : Nat) : Nat → Prop := fun q => t ≤ q ∧ q < t + 16
def St (g : Gs) (h : Hc) (s t c r f : Nat) (w : Nat → Int) : Prop := Ct g h c t r w ∧ (g.1[s]? = some (7, 3, [(t : Int), (c : Int), (f : Int)]) ∧ g.1[f]? = some (13, 5, [])) ∧ (∀ i, i < 5 → ¬ sit t c r f (r + i)) ∧ (¬ f = c + 1 ∧ ¬ f = r + 5 ∧ ∀ i, i < 16 → ¬ f = t + i)
section
variable {g : Gs} {h h' : Hc} {s t c r f : Nat} {w w' : Nat → Int}
theorem St.ct (q : St g h s t c r f w) : Ct g h c t r w := q.1
theorem St.tw (q : St g h s t c r f w) : Tw h t w := q.1.tw
theorem St.wf (q : St g h s t c r f w) : WF w := q.1.wf
theorem St.lo (q : St g h s t c r f w) : LawOK w := q.1.lo
theorem St.tg (q : St g h s t c r f w) : TwG g t := q.1.tg
theorem St.o (q : St g h s t c r f w) : g.1[s]? = some (7, 3, [(t : Int), (c : Int), (f : Int)]) := q.2.1.1
theorem St.fr (q : St g h s t c r f w) : g.1[f]? = some (13, 5, []) := q.2.1.2
theorem St.nf (q : St g h s t c r f w) : ¬ f = c + 1 ∧ ¬ f = r + 5 ∧ ∀ i, i < 16 → ¬ f = t + i := q.2.2.2
theorem Off.scrS (o : Off (scr c r) h h') : Off (sit t c r f) h h' := o.mono (fun q hq => hq.elim (fun e => Or.inr (Or.inl e)) (fun e => Or.inr (Or.inr (Or.inl e))))
theorem St.scr (q : St g h s t c r f w) (o : Off (scr c r) h h') : St g h' s t c r f w := ⟨q.1.off o, q.2⟩
theorem St.nx (q : St g h s t c r f w) (o : Off (sit t c r f) h h') (ht : Tw h' t w') (hf : WF w') (hs : SameL w w') : St g h' s t c r f w' := ⟨⟨q.1.1, ht, hf, (q.1.lw.off o q.2.2.1).same hs, q.1.lo.same hs⟩, q.2⟩
theorem St.hd (q : St g h s t c r f w) (o : Off (fun a => a = f) h h') : St g h' s t c r f w := q.nx (o.mono (fun _ e => Or.inr (Or.inr (Or.inr e)))) (q.tw.off o (fun i hi e => q.nf.2.2 i hi e.symm)) q.wf (SameL.rf _)
theorem Off.twS {S : Nat → Prop} (o : Off S h h') (hs : ∀ q, S q → t ≤ q ∧ q < t + 16) : Off (sit t c r f) h h' := o.mono (fun q hq => Or.inl (hs q hq))
theorem St.fk (q : St g h s t c r f w) {S : Nat → Prop} (o : Off S h h') (hs : ∀ q, S q → (t ≤ q ∧ q < t + 16) ∨ q = c + 1 ∨ q = r + 5) : h' f = h f := o f (fun hS => by
  rcases hs f hS with e | e | e
  · exact q.nf.2.2 (f - t) (by omega) (by omega)
  · exact q.nf.1 e
  · exact q.nf.2.1 e)
end
set_option maxHeartbeats 400000 in
theorem C_X7_find {d : Nat} {g : Gs} {h : Hc} {P : Po} {s t c r f : Nat} {w : Nat → Int} (hS : St g h s t c r f w) {j x : Nat} {p : Int} (hj : j < 5) (hx : (x : Int) < w 1) (K : ∀ h', Off (tws t) h h' → Tw h' t (findP w j x p) → P (.inl none) g h') : Call (d + 1) 0 0 mX7_find [vR s, vI ((j : Nat) : Int), vI ((x : Nat) : Int), vI p] g h P := by
  have hcs := hS.wf.cas
  have hho := hS.wf.hou
  have hjd := hS.wf.jud
  have hdy := hS.wf.day
  have hfn := fnd_rng p
  refine Call_of rfl ⟨by decide +kernel, rfl⟩ (Nat.le_of_ble_eq_true rfl) rfl ?_
  have hO0 : Off (tws t) h h := Off.rf _ _
  suffices J1 : Run (d + 1) 0 0 mX7_find 9 [vR s, vI ((j : Nat) : Int), vI ((x : Nat) : Int), vI p, vU] [vI (fnd p)] g h P by
    refine iL3 dX7_find_0 ?_
    refine R_if_lt dX7_find_1 (fun hb1 => ?_) (fun hb1 => ?_)
    · refine R_iconst_2 dX7_find_8 ?_
      exact topV (v := fnd p) (by unfold fnd; (split <;> omega)) J1
    · refine R_iconst_1 dX7_find_4 ?_
      refine R_goto dX7_find_5 ?_
      exact topV (v := fnd p) (by unfold fnd; (split <;> omega)) J1
  refine iS4 dX7_find_9 ?_
  refine aL0 dX7_find_11 ?_
  refine R_getR dX7_find_12 fX7_15.r hS.o rfl ?_
  refine R_getR dX7_find_15 fX7_59 hS.tg.o rfl ?_
  refine iL2 dX7_find_18 ?_
  refine iL4 dX7_find_19 ?_
  refine iastN dX7_find_21 hS.tg.a9 rfl (by omega) ?_
  refine storH (fun h2 e2 => ?_)
  have hw2 : Tw h2 t (updW w (104 + 7 * x) (fnd p)) := by rw [e2]; exact hS.tw.ust (by omega)
  have hO2 : Off (tws t) h h2 := by rw [e2]; exact hO0.upd ⟨by omega, by omega⟩
  refine aL0 dX7_find_22 ?_
  refine R_getR dX7_find_23 fX7_15.r hS.o rfl ?_
  refine R_getR dX7_find_26 fX7_62 hS.tg.o rfl ?_
  refine iL2 dX7_find_29 ?_
  refine iL1 dX7_find_30 ?_
  refine iastN dX7_find_31 hS.tg.a10 rfl (by omega) ?_
  refine storH (fun h3 e3 => ?_)
  have hw3 : Tw h3 t (updW (updW w (104 + 7 * x) (fnd p)) (105 + 7 * x) ((j : Nat) : Int)) := by rw [e3]; exact hw2.uby (by rw [updW_n (by omega)]; omega) (by omega)
  have hO3 : Off (tws t) h h3 := by rw [e3]; exact hO2.upd ⟨by omega, by omega⟩
  refine aL0 dX7_find_32 ?_
  refine R_getR dX7_find_33 fX7_15.r hS.o rfl ?_
  refine R_getR dX7_find_36 fX7_65 hS.tg.o rfl ?_
  refine iL2 dX7_find_39 ?_
  refine aL0 dX7_find_40 ?_
  refine R_getR dX7_find_41 fX7_15.r hS.o rfl ?_
  refine R_getI dX7_find_44 fX7_68.r hS.tg.o ?_
  refine topV (v := (updW (updW w (104 + 7 * x) (fnd p)) (105 + 7 * x) ((j : Nat) : Int)) 5) (hw3.s4) ?_
  refine topV (v := w 5) (by rw [updW_n (by omega), updW_n (by omega)]) ?_
  refine iastN dX7_find_47 hS.tg.a11 rfl (by omega) ?_
  refine storH (fun h4 e4 => ?_)
  have hw4 : Tw h4 t (updW (updW (updW w (104 + 7 * x) (fnd p)) (105 + 7 * x) ((j : Nat) : Int)) (106 + 7 * x) (w 5)) := by rw [e4]; exact hw3.udy (by rw [updW_n (by omega), updW_n (by omega)]; omega) (by omega)
  have hO4 : Off (tws t) h h4 := by rw [e4]; exact hO3.upd ⟨by omega, by omega⟩
  refine aL0 dX7_find_48 ?_
  refine R_getR dX7_find_49 fX7_15.r hS.o rfl ?_
  refine R_getR dX7_find_52 fX7_71 hS.tg.o rfl ?_
  refine aL0 dX7_find_55 ?_
  refine R_getR dX7_find_56 fX7_15.r hS.o rfl ?_
  refine R_getI dX7_find_59 fX7_68.r hS.tg.o ?_
  refine topV (v := (updW (updW (updW w (104 + 7 * x) (fnd p)) (105 + 7 * x) ((j : Nat) : Int)) (106 + 7 * x) (w 5)) 5) (hw4.s4) ?_
  refine aL0 dX7_find_62 ?_
  refine R_getR dX7_find_63 fX7_15.r hS.o rfl ?_
  refine R_getI dX7_find_66 fX7_42.r hS.tg.o ?_
  refine topV (v := (updW (updW (updW w (104 + 7 * x) (fnd p)) (105 + 7 * x) ((j : Nat) : Int)) (106 + 7 * x) (w 5)) 4) (hw4.s3) ?_
  refine iL2 dX7_find_69 ?_
  refine iL4 dX7_find_70 ?_
  refine R_iconst_1 dX7_find_72 ?_
  refine subV dX7_find_73 (wid (by omega) (by omega)) ?_
  refine topV (v := (if 0 ≤ p then 0 else 1)) (by unfold fnd; (split <;> omega)) ?_
  refine iL1 dX7_find_74 ?_
  refine iL3 dX7_find_75 ?_
  have hf9 : WF (updW (updW (updW w (104 + 7 * x) (fnd p)) (105 + 7 * x) ((j : Nat) : Int)) (106 + 7 * x) (w 5)) := ((hS.wf.ust (k := x) hx (by omega) (by omega)).uby (k := x) (by omega) (by omega)).udy (k := x) (by omega) (by omega)
  refine invV6 rfl dX7_find_76 kX7_75 hS.tg.a14 (Nat.le_of_ble_eq_true rfl) (Nat.zero_le _) (Nat.zero_le _) (C_X4_write hS.tg hw4 hf9 (fun h5 hx5 hw5 => konV ?_))
  have hO5 := hO4.tr (hx5.mono (fun q hq => (by unfold tws; omega : tws t q)))
  exact R_vret dX7_find_79 rfl (K _ hO5 hw5)
set_option maxHeartbeats 400000 in
theorem C_X7_hearAll {d : Nat} {g : Gs} {h : Hc} {P : Po} {s t c r f : Nat} {w : Nat → Int} (hS : St g h s t c r f w) (K : ∀ h', Off (sit t c r f) h h' → Tw h' t (heaF w (w 0).toNat).1 → (∀ j, j < (w 0).toNat → h' f j = (heaF w (w 0).toNat).2.1 j) → P (.inl (some (vI (((heaF w (w 0).toNat).2.2 : Nat) : Int)))) g h') : Call (d + 4) 0 0 mX7_hearAll [vR s] g h P := by
  have hcs := hS.wf.cas
  have hho := hS.wf.hou
  have hjd := hS.wf.jud
  have hdy := hS.wf.day
  refine Call_of rfl ⟨by decide +kernel, rfl⟩ (Nat.le_of_ble_eq_true rfl) rfl ?_
  have hO0 : Off (sit t c r f) h h := Off.rf _ _
  refine R_iconst_0 dX7_hearAll_0 ?_
  refine iS1 dX7_hearAll_1 ?_
  refine R_iconst_0 dX7_hearAll_2 ?_
  refine iS2 dX7_hearAll_3 ?_
  refine loopN ((w 0).toNat) (fun q => ∀ (v3 : AV) (hK : Hc), St g hK s t c r f (heaF w q).1 → Off (sit t c r f) h hK → (∀ j, j < q → hK f j = (heaF w q).2.1 j) → Run (d + 4) 0 0 mX7_hearAll 4 [vR s, vI (((heaF w q).2.2 : Nat) : Int), vI ((q : Nat) : Int), v3] [] g hK P) (fun q hcnq ihq v3 hK hSK hOK hdK => ?_) (0) (Nat.zero_le _) _ h hS hO0 (fun j hj => absurd hj (Nat.not_lt_zero _))
  have hok1 := heaF_ok hS.wf hS.lo q (by omega)
  have hk0 := hok1.2.1.1.1
  have hk1 := hok1.2.1.1.2.1
  have hho1 := hSK.wf.hou
  have hca1 := hSK.wf.cas
  have hn1 := hok1.2.2.2
  have hwr := waitAt_rng hSK.wf (j := q) (k := ((heaF w q).1 4).toNat)
  refine iL2 dX7_hearAll_4 ?_
  refine aL0 dX7_hearAll_5 ?_
  refine R_getR dX7_hearAll_6 fX7_15.r hS.o rfl ?_
  refine R_getI dX7_hearAll_9 fX7_36.r hS.tg.o ?_
  refine topV (v := (heaF w q).1 0) (hSK.tw.s0) ?_
  have hq1 := hSK.wf.jud
  refine R_icmp_ge dX7_hearAll_12 (fun hb12 => ?_) (fun hb12 => ?_)
  · have e9 : q = (w 0).toNat := by omega
    subst e9
    refine iL1 dX7_hearAll_73 ?_
    exact R_iret dX7_hearAll_74 rfl (K _ hOK hSK.tw hdK)
  · have hwr2 := hwr (by omega) (by omega)
    refine aL0 dX7_hearAll_15 ?_
    refine R_getR dX7_hearAll_16 fX7_15.r hS.o rfl ?_
    refine iL2 dX7_hearAll_19 ?_
    refine aL0 dX7_hearAll_20 ?_
    refine R_getR dX7_hearAll_21 fX7_15.r hS.o rfl ?_
    refine R_getI dX7_hearAll_24 fX7_42.r hS.tg.o ?_
    refine topV (v := (heaF w q).1 4) (hSK.tw.s3) ?_
    have hq2 := hSK.wf.hou
    refine topV (v := ((((heaF w q).1 4).toNat : Nat) : Int)) (by omega) ?_
    refine invV2 rfl dX7_hearAll_27 kX7_45 hS.tg.o (Nat.le_of_ble_eq_true rfl) (Nat.zero_le _) (Nat.zero_le _) (C_X10_waitingAt hSK.tg hSK.tw hSK.wf (by omega) (by omega) (konI ?_))
    refine iS3 dX7_hearAll_30 ?_
    refine aL0 dX7_hearAll_31 ?_
    refine R_getR dX7_hearAll_32 fX7_9.r hS.o rfl ?_
    refine iL2 dX7_hearAll_35 ?_
    refine iL3 dX7_hearAll_36 ?_
    refine iastN dX7_hearAll_37 hS.fr rfl (by omega) ?_
    refine storH (fun h3 e3 => ?_)
    have hx3 : Off (fun a => a = f) hK h3 := by rw [e3]; exact (Off.rf _ _).upd rfl
    have hS3 := hSK.hd hx3
    have hO3 := hOK.tr (hx3.mono (fun _ e => Or.inr (Or.inr (Or.inr e))) : Off (sit t c r f) hK h3)
    have hd3 : ∀ j, j < q + 1 → h3 f j = (heaF w (q + 1)).2.1 j := fun j hj => by
      rw [e3, updH_r, heaF_s]
      show updW (hK f) q _ j = updW _ q _ j
      by_cases e9 : j = q
      · subst e9; rw [updW_s, updW_s]
      · rw [updW_n e9, updW_n e9]; exact hdK j (by omega)
    refine iL3 dX7_hearAll_38 ?_
    refine R_if_lt dX7_hearAll_39 (fun hb39 => ?_) (fun hb39 => ?_)
    · have hEn : (heaF w (q + 1)).1 = (heaF w q).1 := by rw [heaF_s]; show (if _ then _ else _) = _; rw [if_neg (by omega)]
      refine iInc2 dX7_hearAll_67 (winc (by omega)) ?_
      refine R_goto dX7_hearAll_70 ?_
      exact eqI1 (by rw [heaF_s]; show _ = ((if _ then _ else _ : Nat) : Int); first | (rw [if_pos (by omega)]; done) | (rw [if_pos (by omega)]; omega) | (rw [if_neg (by omega)])) (ihq (by omega) _ _ (by rw [hEn]; exact hS3) hO3 hd3)
    · refine aL0 dX7_hearAll_42 ?_
      refine iL2 dX7_hearAll_43 ?_
      refine iL3 dX7_hearAll_44 ?_
      refine topV (v := (((waitAt (heaF w q).1 q ((heaF w q).1 4).toNat).toNat : Nat) : Int)) (by omega) ?_
      refine aL0 dX7_hearAll_45 ?_
      refine R_getR dX7_hearAll_46 fX7_19.r hS.o rfl ?_
      refine iL2 dX7_hearAll_49 ?_
      refine iL3 dX7_hearAll_50 ?_
      refine topV (v := (((waitAt (heaF w q).1 q ((heaF w q).1 4).toNat).toNat : Nat) : Int)) (by omega) ?_
      refine aL0 dX7_hearAll_51 ?_
      refine R_getR dX7_hearAll_52 fX7_15.r hS.o rfl ?_
      refine R_getI dX7_hearAll_55 fX7_42.r hS.tg.o ?_
      refine topV (v := (heaF w q).1 4) (hS3.tw.s3) ?_
      have hq4 := hS3.wf.hou
      refine invV3 rfl dX7_hearAll_58 kX7_49 hS.ct.ct (Nat.le_of_ble_eq_true rfl) (Nat.zero_le _) (Nat.zero_le _) (C_X1_pointOf hS3.ct (by omega) (by omega) (by omega) (fun h5 hx5 => konI ?_))
      have hS5 := hS3.scr hx5
      have hO5 := hO3.tr hx5.scrS
      have hd5 : ∀ j, j < q + 1 → h5 f j = (heaF w (q + 1)).2.1 j := fun j hj => by rw [hS3.fk hx5 (fun q hq => Or.inr hq)]; exact hd3 j hj
      refine invV3 rfl dX7_hearAll_61 kX7_55 hS.o (Nat.le_of_ble_eq_true rfl) (Nat.zero_le _) (Nat.zero_le _) (C_X7_find hS5 (by omega) (by omega) (fun h6 hx6 hw6 => konV ?_))
      have hO6 := hO5.tr (hx6.twS (fun q hq => hq))
      have hE6 : findP (heaF w q).1 q (waitAt (heaF w q).1 q ((heaF w q).1 4).toNat).toNat (pt0 (heaF w q).1 q (waitAt (heaF w q).1 q ((heaF w q).1 4).toNat).toNat ((heaF w q).1 4)) = (heaF w (q + 1)).1 := by rw [heaF_s]; show _ = (if _ then _ else _); rw [if_pos (by omega)]
      rw [hE6] at hw6
      have hok2 := heaF_ok hS.wf hS.lo (q + 1) (by omega)
      have hS6 := hS5.nx (hx6.twS (fun q hq => hq)) hw6 hok2.1 (fun i hi => (hok2.2.1.2.1 i hi).trans (hok1.2.1.2.1 i hi).symm)
      have hfk6 := hS5.fk hx6 (fun q hq => Or.inl hq)
      refine iInc1 dX7_hearAll_64 (winc (by omega)) ?_
      refine iInc2 dX7_hearAll_67 (winc (by omega)) ?_
      refine R_goto dX7_hearAll_70 ?_
      exact eqI1 (by rw [heaF_s]; show _ = ((if _ then _ else _ : Nat) : Int); first | (rw [if_pos (by omega)]; done) | (rw [if_pos (by omega)]; omega) | (rw [if_neg (by omega)])) (ihq (by omega) _ _ hS6 hO6 (fun j hj => by rw [hfk6]; exact hd5 j hj))
set_option maxHeartbeats 400000 in
theorem C_X7_growHungry {d : Nat} {g : Gs} {h : Hc} {P : Po} {s t c r f : Nat} {w : Nat → Int} (hS : St g h s t c r f w) (K : ∀ h', Off (tws t) h h' → Tw h' t (hunF w (w 0).toNat) → P (.inl none) g h') : Call (d + 0) 0 0 mX7_growHungry [vR s] g h P := by
  have hcs := hS.wf.cas
  have hho := hS.wf.hou
  have hjd := hS.wf.jud
  have hdy := hS.wf.day
  refine Call_of rfl ⟨by decide +kernel, rfl⟩ (Nat.le_of_ble_eq_true rfl) rfl ?_
  have hO0 : Off (tws t) h h := Off.rf _ _
  refine R_iconst_0 dX7_growHungry_0 ?_
  refine iS1 dX7_growHungry_1 ?_
  refine loopN ((w 0).toNat) (fun q => ∀ hK : Hc, Off (tws t) h hK → Tw hK t (hunF w q) → Run (d + 0) 0 0 mX7_growHungry 2 [vR s, vI ((q : Nat) : Int)] [] g hK P) (fun q hcnq ihq hK hOK hwK => ?_) (0) (Nat.zero_le _) h hO0 hS.tw
  obtain ⟨hfK, hkK⟩ := hunF_ok hS.wf q (by omega)
  have hk0 := hkK.1.1
  refine iL1 dX7_growHungry_2 ?_
  refine aL0 dX7_growHungry_3 ?_
  refine R_getR dX7_growHungry_4 fX7_15.r hS.o rfl ?_
  refine R_getI dX7_growHungry_7 fX7_36.r hS.tg.o ?_
  refine topV (v := (hunF w q) 0) (hwK.s0) ?_
  have hq1 := hfK.jud
  refine R_icmp_ge dX7_growHungry_10 (fun hb10 => ?_) (fun hb10 => ?_)
  · have e9 : q = (w 0).toNat := by omega
    subst e9
    exact R_vret dX7_growHungry_44 rfl (K _ hOK hwK)
  · refine aL0 dX7_growHungry_13 ?_
    refine R_getR dX7_growHungry_14 fX7_15.r hS.o rfl ?_
    refine R_getR dX7_growHungry_17 fX7_81 hS.tg.o rfl ?_
    refine iL1 dX7_growHungry_20 ?_
    refine R_bipush dX7_growHungry_21 (by decide) ?_
    refine aL0 dX7_growHungry_23 ?_
    refine R_getR dX7_growHungry_24 fX7_15.r hS.o rfl ?_
    refine R_getR dX7_growHungry_27 fX7_81 hS.tg.o rfl ?_
    refine iL1 dX7_growHungry_30 ?_
    refine ialdN dX7_growHungry_31 hS.tg.a1 rfl (by omega) ?_
    refine topV (v := (hunF w q) (80 + 4 * q)) (hwK.a1 (by omega)) ?_
    have hq2 := hfK.hu (j := q) (by omega)
    refine R_iconst_1 dX7_growHungry_32 ?_
    refine addV dX7_growHungry_33 (wid (by omega) (by omega)) ?_
    refine R_mmin dX7_growHungry_34 kX7_84 lb_min (Nat.le_of_ble_eq_true rfl) ?_
    refine topV (v := mn99 ((hunF w q) (80 + 4 * q) + 1)) (rfl) ?_
    refine iastN dX7_growHungry_37 hS.tg.a1 rfl (by omega) ?_
    refine storH (fun h3 e3 => ?_)
    have hw3 : Tw h3 t (updW (hunF w q) (80 + 4 * q) (mn99 ((hunF w q) (80 + 4 * q) + 1))) := by rw [e3]; exact hwK.uhu (by omega)
    have hO3 : Off (tws t) h h3 := by rw [e3]; exact hOK.upd ⟨by omega, by omega⟩
    refine iInc1 dX7_growHungry_38 (winc (by omega)) ?_
    refine R_goto dX7_growHungry_41 ?_
    exact ihq (by omega) _ hO3 hw3
set_option maxHeartbeats 400000 in
theorem C_X7_nextDraw {d : Nat} {g : Gs} {h : Hc} {P : Po} {s t c r f : Nat} {w : Nat → Int} (hS : St g h s t c r f w) (K : ∀ h', Off (tws t) h h' → Tw h' t (drwW w) → P (.inl (some (vI (drwV (drwS w))))) g h') : Call (d + 0) 0 0 mX7_nextDraw [vR s] g h P := by
  have hcs := hS.wf.cas
  have hho := hS.wf.hou
  have hjd := hS.wf.jud
  have hdy := hS.wf.day
  refine Call_of rfl ⟨by decide +kernel, rfl⟩ (Nat.le_of_ble_eq_true rfl) rfl ?_
  have hO0 : Off (tws t) h h := Off.rf _ _
  refine aL0 dX7_nextDraw_0 ?_
  refine R_getR dX7_nextDraw_1 fX7_15.r hS.o rfl ?_
  refine aL0 dX7_nextDraw_4 ?_
  refine R_getR dX7_nextDraw_5 fX7_15.r hS.o rfl ?_
  refine R_getI dX7_nextDraw_8 fX7_99.r hS.tg.o ?_
  refine topV (v := w 7) (hS.tw.s5) ?_
  refine R_ldcI dX7_nextDraw_11 qX7_102 (by decide) ?_
  refine R_imul dX7_nextDraw_13 ?_
  refine R_sipush dX7_nextDraw_14 (by decide) ?_
  refine R_iadd dX7_nextDraw_17 ?_
  refine R_putI dX7_nextDraw_18 fX7_99 hS.tg.o ?_
  refine storH (fun h1 e1 => ?_)
  have hw1 : Tw h1 t (drwW w) := by rw [e1]; exact hS.tw.use
  have hO1 : Off (tws t) h h1 := by rw [e1]; exact hO0.upd ⟨by omega, by omega⟩
  refine aL0 dX7_nextDraw_21 ?_
  refine R_getR dX7_nextDraw_22 fX7_15.r hS.o rfl ?_
  refine R_getI dX7_nextDraw_25 fX7_99.r hS.tg.o ?_
  refine topV (v := (drwW w) 7) (hw1.s5) ?_
  refine topV (v := drwS w) (updW_s _ _ _) ?_
  refine R_bipush dX7_nextDraw_28 (by decide) ?_
  refine R_ishr dX7_nextDraw_30 ?_
  refine R_sipush dX7_nextDraw_31 (by decide) ?_
  refine R_iand dX7_nextDraw_34 ?_
  exact R_iret dX7_nextDraw_35 rfl (K _ hO1 hw1)
set_option maxHeartbeats 400000 in
theorem C_X7_undoFindings {d : Nat} {g : Gs} {h : Hc} {P : Po} {s t c r f : Nat} {w : Nat → Int} (hS : St g h s t c r f w) {j : Nat} (hj : j < 5) (K : ∀ h', Off (tws t) h h' → Tw h' t (undF w j (crum w (j : Int)) (w 1).toNat) → P (.inl none) g h') : Call (d + 2) 0 0 mX7_undoFindings [vR s, vI ((j : Nat) : Int)] g h P := by
  have hcs := hS.wf.cas
  have hho := hS.wf.hou
  have hjd := hS.wf.jud
  have hdy := hS.wf.day
  refine Call_of rfl ⟨by decide +kernel, rfl⟩ (Nat.le_of_ble_eq_true rfl) rfl ?_
  have hO0 : Off (tws t) h h := Off.rf _ _
  refine aL0 dX7_undoFindings_0 ?_
  refine R_getR dX7_undoFindings_1 fX7_15.r hS.o rfl ?_
  refine iL1 dX7_undoFindings_4 ?_
  refine invV1 rfl dX7_undoFindings_5 kX7_103 hS.tg.o (Nat.le_of_ble_eq_true rfl) (Nat.zero_le _) (Nat.zero_le _) (C_X10_crumbling hS.tg hS.tw hS.wf (konI ?_))
  refine iS2 dX7_undoFindings_8 ?_
  refine R_iconst_0 dX7_undoFindings_9 ?_
  refine iS3 dX7_undoFindings_10 ?_
  refine loopN ((w 1).toNat) (fun q => ∀ hK : Hc, Off (tws t) h hK → Tw hK t (undF w j (crum w (j : Int)) q) → Run (d + 2) 0 0 mX7_undoFindings 11 [vR s, vI ((j : Nat) : Int), vI (crum w (j : Int)), vI ((q : Nat) : Int)] [] g hK P) (fun q hcnq ihq hK hOK hwK => ?_) (0) (Nat.zero_le _) h hO0 hS.tw
  obtain ⟨hfK, hkK⟩ := undF_ok hS.wf hj (crum w (j : Int)) q (by omega)
  have hk1 := hkK.1.2.1
  refine iL3 dX7_undoFindings_11 ?_
  refine aL0 dX7_undoFindings_12 ?_
  refine R_getR dX7_undoFindings_13 fX7_15.r hS.o rfl ?_
  refine R_getI dX7_undoFindings_16 fX7_107.r hS.tg.o ?_
  refine topV (v := (undF w j (crum w (j : Int)) q) 1) (hwK.s1) ?_
  have hq1 := hfK.cas
  refine R_icmp_ge dX7_undoFindings_19 (fun hb19 => ?_) (fun hb19 => ?_)
  · have e9 : q = (w 1).toNat := by omega
    subst e9
    exact R_vret dX7_undoFindings_74 rfl (K _ hOK hwK)
  · refine iL2 dX7_undoFindings_22 ?_
    refine iL3 dX7_undoFindings_23 ?_
    refine R_ishr dX7_undoFindings_24 ?_
    refine R_iconst_1 dX7_undoFindings_25 ?_
    refine R_iand dX7_undoFindings_26 ?_
    refine topV (bitB (by omega)) ?_
    refine R_ifB_eq dX7_undoFindings_27 (fun hb27 => ?_) (fun hb27 => ?_)
    · refine iInc3 dX7_undoFindings_68 (winc (by omega)) ?_
      refine R_goto dX7_undoFindings_71 ?_
      exact ihq (by omega) _ hOK (by rw [undF_f hb27]; exact hwK)
    · refine aL0 dX7_undoFindings_30 ?_
      refine R_getR dX7_undoFindings_31 fX7_15.r hS.o rfl ?_
      refine R_getR dX7_undoFindings_34 fX7_59 hS.tg.o rfl ?_
      refine iL3 dX7_undoFindings_37 ?_
      refine R_iconst_3 dX7_undoFindings_38 ?_
      refine iastN dX7_undoFindings_39 hS.tg.a9 rfl (by omega) ?_
      refine storH (fun h2 e2 => ?_)
      have hw2 : Tw h2 t (updW (undF w j (crum w (j : Int)) q) (104 + 7 * q) 3) := by rw [e2]; exact hwK.ust (by omega)
      have hO2 : Off (tws t) h h2 := by rw [e2]; exact hOK.upd ⟨by omega, by omega⟩
      refine aL0 dX7_undoFindings_40 ?_
      refine R_getR dX7_undoFindings_41 fX7_15.r hS.o rfl ?_
      refine R_getR dX7_undoFindings_44 fX7_71 hS.tg.o rfl ?_
      refine aL0 dX7_undoFindings_47 ?_
      refine R_getR dX7_undoFindings_48 fX7_15.r hS.o rfl ?_
      refine R_getI dX7_undoFindings_51 fX7_68.r hS.tg.o ?_
      refine topV (v := (updW (undF w j (crum w (j : Int)) q) (104 + 7 * q) 3) 5) (hw2.s4) ?_
      refine aL0 dX7_undoFindings_54 ?_
      refine R_getR dX7_undoFindings_55 fX7_15.r hS.o rfl ?_
      refine R_getI dX7_undoFindings_58 fX7_42.r hS.tg.o ?_
      refine topV (v := (updW (undF w j (crum w (j : Int)) q) (104 + 7 * q) 3) 4) (hw2.s3) ?_
      refine iL3 dX7_undoFindings_61 ?_
      refine R_iconst_2 dX7_undoFindings_62 ?_
      refine iL1 dX7_undoFindings_63 ?_
      refine R_iconst_0 dX7_undoFindings_64 ?_
      have hf9 : WF (updW (undF w j (crum w (j : Int)) q) (104 + 7 * q) 3) := hfK.ust (by omega) (by omega) (by omega)
      refine invV6 rfl dX7_undoFindings_65 kX7_75 hS.tg.a14 (Nat.le_of_ble_eq_true rfl) (Nat.zero_le _) (Nat.zero_le _) (C_X4_write hS.tg hw2 hf9 (fun h3 hx3 hw3 => konV ?_))
      have hO3 := hO2.tr (hx3.mono (fun q hq => (by unfold tws; omega : tws t q)))
      refine iInc3 dX7_undoFindings_68 (winc (by omega)) ?_
      refine R_goto dX7_undoFindings_71 ?_
      exact ihq (by omega) _ hO3 (by rw [undF_t hb27]; exact hw3)
set_option maxHeartbeats 400000 in
theorem C_X7_drawCrumbs {d : Nat} {g : Gs} {h : Hc} {P : Po} {s t c r f : Nat} {w : Nat → Int} (hS : St g h s t c r f w) {hd : Nat → Int} (hhd : ∀ j, j < (w 0).toNat → h f j = hd j) (hhx : ∀ j, j < (w 0).toNat → -1 ≤ hd j ∧ hd j < w 1) (K : ∀ h', Off (sit t c r f) h h' → Tw h' t (draF hd w (w 0).toNat) → P (.inl none) g h') : Call (d + 4) 0 0 mX7_drawCrumbs [vR s] g h P := by
  have hcs := hS.wf.cas
  have hho := hS.wf.hou
  have hjd := hS.wf.jud
  have hdy := hS.wf.day
  refine Call_of rfl ⟨by decide +kernel, rfl⟩ (Nat.le_of_ble_eq_true rfl) rfl ?_
  have hO0 : Off (sit t c r f) h h := Off.rf _ _
  refine R_iconst_0 dX7_drawCrumbs_0 ?_
  refine iS1 dX7_drawCrumbs_1 ?_
  refine loopN ((w 0).toNat) (fun q => ∀ (v2 : AV) (hK : Hc), St g hK s t c r f (draF hd w q) → Off (sit t c r f) h hK → (∀ j, j < (w 0).toNat → hK f j = hd j) → Run (d + 4) 0 0 mX7_drawCrumbs 2 [vR s, vI ((q : Nat) : Int), v2] [] g hK P) (fun q hcnq ihq v2 hK hSK hOK hdK => ?_) (0) (Nat.zero_le _) _ h hS hO0 hhd
  obtain ⟨hfK, hkK⟩ := draF_ok (hd := hd) hS.wf q (by omega)
  have hk0 := hkK.1.1
  have hk1 := hkK.1.2.1
  refine iL1 dX7_drawCrumbs_2 ?_
  refine aL0 dX7_drawCrumbs_3 ?_
  refine R_getR dX7_drawCrumbs_4 fX7_15.r hS.o rfl ?_
  refine R_getI dX7_drawCrumbs_7 fX7_36.r hS.tg.o ?_
  refine topV (v := (draF hd w q) 0) (hSK.tw.s0) ?_
  have hq1 := hSK.wf.jud
  refine R_icmp_ge dX7_drawCrumbs_10 (fun hb10 => ?_) (fun hb10 => ?_)
  · have e9 : q = (w 0).toNat := by omega
    subst e9
    exact R_vret dX7_drawCrumbs_60 rfl (K _ hOK hSK.tw)
  · refine aL0 dX7_drawCrumbs_13 ?_
    refine R_getR dX7_drawCrumbs_14 fX7_19.r hS.o rfl ?_
    refine iL1 dX7_drawCrumbs_17 ?_
    refine aL0 dX7_drawCrumbs_18 ?_
    refine R_getR dX7_drawCrumbs_19 fX7_9.r hS.o rfl ?_
    refine iL1 dX7_drawCrumbs_22 ?_
    have hhr := hhx q (by omega)
    refine ialdN dX7_drawCrumbs_23 hS.fr rfl (by omega) ?_
    refine topV (v := hd q) (hdK q (by omega)) ?_
    refine invV2 rfl dX7_drawCrumbs_24 kX7_89 hS.ct.ct (Nat.le_of_ble_eq_true rfl) (Nat.zero_le _) (Nat.zero_le _) (C_X1_crumbsOf hSK.ct (by omega) (by omega) (by omega) (fun h2 hx2 => konI ?_))
    have hS2 := hSK.scr hx2
    have hO2 := hOK.tr hx2.scrS
    have hd2 : ∀ j, j < (w 0).toNat → h2 f j = hd j := fun j hj => by rw [hSK.fk hx2 (fun q hq => Or.inr hq)]; exact hdK j hj
    refine iS2 dX7_drawCrumbs_27 ?_
    refine aL0 dX7_drawCrumbs_28 ?_
    refine invV0 rfl dX7_drawCrumbs_29 kX7_92 hS.o (Nat.le_of_ble_eq_true rfl) (Nat.zero_le _) (Nat.zero_le _) (C_X7_nextDraw hS2 (fun h3 hx3 hw3 => konI ?_))
    have hO3 := hO2.tr (hx3.twS (fun q hq => hq))
    have hS3 := hS2.nx (hx3.twS (fun q hq => hq)) hw3 (drwW_ok hfK).1 (drwW_ok hfK).2.2.1
    have hd3 : ∀ j, j < (w 0).toNat → h3 f j = hd j := fun j hj => by rw [hS2.fk hx3 (fun q hq => Or.inl hq)]; exact hd2 j hj
    have hdr := drwV_rng (drwS (draF hd w q))
    refine R_bipush dX7_drawCrumbs_32 (by decide) ?_
    refine remV dX7_drawCrumbs_34 (by decide) (remI (by omega) (by omega) (by omega)) ?_
    refine iL2 dX7_drawCrumbs_35 ?_
    refine R_icmp_ge dX7_drawCrumbs_36 (fun hb36 => ?_) (fun hb36 => ?_)
    · refine iInc1 dX7_drawCrumbs_54 (winc (by omega)) ?_
      refine R_goto dX7_drawCrumbs_57 ?_
      exact ihq (by omega) _ _ (by rw [draF_s]; unfold draS; rw [if_neg (by omega)]; exact hS3) hO3 hd3
    · refine aL0 dX7_drawCrumbs_39 ?_
      refine R_getR dX7_drawCrumbs_40 fX7_15.r hS.o rfl ?_
      refine R_getR dX7_drawCrumbs_43 fX7_81 hS.tg.o rfl ?_
      refine iL1 dX7_drawCrumbs_46 ?_
      refine R_iconst_0 dX7_drawCrumbs_47 ?_
      refine iastN dX7_drawCrumbs_48 hS.tg.a1 rfl (by omega) ?_
      refine storH (fun h4 e4 => ?_)
      have hx4 : Off (tws t) h3 h4 := by rw [e4]; exact (Off.rf _ _).upd ⟨by omega, by omega⟩
      have hS4 : St g h4 s t c r f (updW (drwW (draF hd w q)) (80 + 4 * q) 0) := hS3.nx (hx4.twS (fun q hq => hq)) (by rw [e4]; exact hS3.tw.uhu (by omega)) (hS3.wf.uhu (by omega) (by omega)) ((SameL.rf _).upd (by omega) (by omega))
      have hO4 := hO3.tr (hx4.twS (fun q hq => hq) : Off (sit t c r f) _ _)
      have hd4 : ∀ j, j < (w 0).toNat → h4 f j = hd j := fun j hj => by rw [hS3.fk hx4 (fun q hq => Or.inl hq)]; exact hd3 j hj
      refine aL0 dX7_drawCrumbs_49 ?_
      refine iL1 dX7_drawCrumbs_50 ?_
      refine invV1 rfl dX7_drawCrumbs_51 kX7_95 hS.o (Nat.le_of_ble_eq_true rfl) (Nat.zero_le _) (Nat.zero_le _) (C_X7_undoFindings hS4 (by omega) (fun h5 hx5 hw5 => konV ?_))
      have hO5 := hO4.tr (hx5.twS (fun q hq => hq))
      have hE5 : updW (drwW (draF hd w q)) (80 + 4 * q) 0 1 = drwW (draF hd w q) 1 := updW_n (by omega)
      rw [hE5] at hw5
      have hS5 : St g h5 s t c r f (crmW (drwW (draF hd w q)) q) := hS4.nx (hx5.twS (fun q hq => hq)) hw5 (crmW_ok (drwW_ok hfK).1 (by omega)).1 (fun i hi => by rw [(crmW_ok (drwW_ok hfK).1 (j := q) (by omega)).2.2.1 i hi, updW_n (by omega)])
      have hd5 : ∀ j, j < (w 0).toNat → h5 f j = hd j := fun j hj => by rw [hS4.fk hx5 (fun q hq => Or.inl hq)]; exact hd4 j hj
      refine iInc1 dX7_drawCrumbs_54 (winc (by omega)) ?_
      refine R_goto dX7_drawCrumbs_57 ?_
      exact ihq (by omega) _ _ (by rw [draF_s]; unfold draS; rw [if_pos (by omega)]; exact hS5) hO5 hd5
theorem updW_2 (w : Nat → Int) (i : Nat) (a b : Int) : updW (updW w i a) i b = updW w i b := by
  funext j
  unfold updW
  split <;> rfl
set_option maxHeartbeats 400000 in
theorem C_X7_turnHour {d : Nat} {g : Gs} {h : Hc} {P : Po} {s t c r f : Nat} {w : Nat → Int} (hS : St g h s t c r f w) (K : ∀ h', Off (tws t) h h' → Tw h' t (turW w) → P (.inl none) g h') : Call (d + 1) 0 0 mX7_turnHour [vR s] g h P := by
  have hcs := hS.wf.cas
  have hho := hS.wf.hou
  have hjd := hS.wf.jud
  have hdy := hS.wf.day
  refine Call_of rfl ⟨by decide +kernel, rfl⟩ (Nat.le_of_ble_eq_true rfl) rfl ?_
  have hO0 : Off (tws t) h h := Off.rf _ _
  refine aL0 dX7_turnHour_0 ?_
  refine R_getR dX7_turnHour_1 fX7_15.r hS.o rfl ?_
  refine dupR dX7_turnHour_4 ?_
  refine R_getI dX7_turnHour_5 fX7_42.r hS.tg.o ?_
  refine topV (v := w 4) (hS.tw.s3) ?_
  have hq1 := hS.wf.hou
  refine R_iconst_1 dX7_turnHour_8 ?_
  refine addV dX7_turnHour_9 (wid (by omega) (by omega)) ?_
  refine R_putI dX7_turnHour_10 fX7_42 hS.tg.o ?_
  refine storH (fun h2 e2 => ?_)
  have hw2 : Tw h2 t (updW w 4 ((w 4) + 1)) := by rw [e2]; exact hS.tw.uho
  have hO2 : Off (tws t) h h2 := by rw [e2]; exact hO0.upd ⟨by omega, by omega⟩
  refine aL0 dX7_turnHour_13 ?_
  refine R_getR dX7_turnHour_14 fX7_15.r hS.o rfl ?_
  refine R_getI dX7_turnHour_17 fX7_42.r hS.tg.o ?_
  refine topV (v := (updW w 4 ((w 4) + 1)) 4) (hw2.s3) ?_
  refine topV (v := w 4 + 1) (updW_s _ _ _) ?_
  refine R_bipush dX7_turnHour_20 (by decide) ?_
  refine R_icmp_lt dX7_turnHour_22 (fun hb22 => ?_) (fun hb22 => ?_)
  · exact R_vret dX7_turnHour_62 rfl (K _ hO2 (by unfold turW; rw [if_pos (by omega)]; exact hw2))
  · refine aL0 dX7_turnHour_25 ?_
    refine R_getR dX7_turnHour_26 fX7_15.r hS.o rfl ?_
    refine R_iconst_0 dX7_turnHour_29 ?_
    refine R_putI dX7_turnHour_30 fX7_42 hS.tg.o ?_
    refine storH (fun h3 e3 => ?_)
    have hw3 : Tw h3 t (updW (updW w 4 ((w 4) + 1)) 4 0) := by rw [e3]; exact hw2.uho
    have hO3 : Off (tws t) h h3 := by rw [e3]; exact hO2.upd ⟨by omega, by omega⟩
    refine aL0 dX7_turnHour_33 ?_
    refine R_getR dX7_turnHour_34 fX7_15.r hS.o rfl ?_
    refine R_sipush dX7_turnHour_37 (by decide) ?_
    refine aL0 dX7_turnHour_40 ?_
    refine R_getR dX7_turnHour_41 fX7_15.r hS.o rfl ?_
    refine R_getI dX7_turnHour_44 fX7_68.r hS.tg.o ?_
    refine topV (v := (updW (updW w 4 ((w 4) + 1)) 4 0) 5) (hw3.s4) ?_
    refine topV (v := w 5) (by rw [updW_n (by omega), updW_n (by omega)]) ?_
    refine R_iconst_1 dX7_turnHour_47 ?_
    refine addV dX7_turnHour_48 (wid (by omega) (by omega)) ?_
    refine R_mmin dX7_turnHour_49 kX7_84 lb_min (Nat.le_of_ble_eq_true rfl) ?_
    refine topV (v := dayN w) (rfl) ?_
    refine R_putI dX7_turnHour_52 fX7_68 hS.tg.o ?_
    refine storH (fun h4 e4 => ?_)
    have hw4 : Tw h4 t (updW (updW (updW w 4 ((w 4) + 1)) 4 0) 5 (dayN w)) := by rw [e4]; exact hw3.uda
    have hO4 : Off (tws t) h h4 := by rw [e4]; exact hO3.upd ⟨by omega, by omega⟩
    refine aL0 dX7_turnHour_55 ?_
    refine R_getR dX7_turnHour_56 fX7_15.r hS.o rfl ?_
    rw [updW_2] at hw4
    have hf9 : WF (updW (updW w 4 0) 5 (dayN w)) := (hS.wf.uho (by omega)).uda (by unfold dayN; split <;> omega)
    refine invV0 rfl dX7_turnHour_59 kX7_110 hS.tg.o (Nat.le_of_ble_eq_true rfl) (Nat.zero_le _) (Nat.zero_le _) (C_X10_takeOffAllFound hS.tg hw4 hf9 (fun h5 hx5 hw5 => konV ?_))
    have hO5 := hO4.tr (hx5.mono (fun q hq => (by unfold tws; omega : tws t q)))
    exact R_vret dX7_turnHour_62 rfl (K _ hO5 (by unfold turW; rw [if_neg (by omega)]; exact hw5))
set_option maxHeartbeats 400000 in
theorem C_X7_goOn {d : Nat} {g : Gs} {h : Hc} {P : Po} {s t c r f : Nat} {w : Nat → Int} (hS : St g h s t c r f w) {n : Nat} {cr : Bool} (hn : n ≤ 48) (K : ∀ h', Off (sit t c r f) h h' → Tw h' t (goF w cr n).1 → P (.inl (some (vI (((goF w cr n).2 : Nat) : Int)))) g h') : Call (d + 5) 0 0 mX7_goOn [vR s, vI ((n : Nat) : Int), vI (bI (cr))] g h P := by
  have hcs := hS.wf.cas
  have hho := hS.wf.hou
  have hjd := hS.wf.jud
  have hdy := hS.wf.day
  refine Call_of rfl ⟨by decide +kernel, rfl⟩ (Nat.le_of_ble_eq_true rfl) rfl ?_
  have hO0 : Off (sit t c r f) h h := Off.rf _ _
  refine R_iconst_0 dX7_goOn_0 ?_
  refine iS3 dX7_goOn_1 ?_
  refine R_iconst_0 dX7_goOn_2 ?_
  refine iS4 dX7_goOn_3 ?_
  refine loopN (n) (fun q => ∀ (hK : Hc), St g hK s t c r f (goF w cr q).1 → Off (sit t c r f) h hK → Run (d + 5) 0 0 mX7_goOn 5 [vR s, vI ((n : Nat) : Int), vI (bI (cr)), vI (((goF w cr q).2 : Nat) : Int), vI ((q : Nat) : Int)] [] g hK P) (fun q hcnq ihq hK hSK hOK => ?_) (0) (Nat.zero_le _) h hS hO0
  obtain ⟨hg1, hg2, hg3, hg4⟩ := goF_ok hS.wf hS.lo cr q
  have hjg := hg1.jud
  have hA := heaF_ok hg1 (hS.lo.same hg3) ((goF w cr q).1 0).toNat (by omega)
  have hB := hurA_ok hg1 (hS.lo.same hg3)
  have hC := hurB_ok hg1 (hS.lo.same hg3) cr
  have hD := hurW_ok hg1 (hS.lo.same hg3) cr
  refine iL4 dX7_goOn_5 ?_
  refine iL1 dX7_goOn_7 ?_
  refine R_icmp_ge dX7_goOn_8 (fun hb8 => ?_) (fun hb8 => ?_)
  · have e9 : q = n := by omega
    subst e9
    refine iL3 dX7_goOn_40 ?_
    exact R_iret dX7_goOn_41 rfl (K _ hOK hSK.tw)
  · refine iL3 dX7_goOn_11 ?_
    refine aL0 dX7_goOn_12 ?_
    refine invV0 rfl dX7_goOn_13 kX7_23 hS.o (Nat.le_of_ble_eq_true rfl) (Nat.zero_le _) (Nat.zero_le _) (C_X7_hearAll hSK (fun h1 hx1 hw1 hdd1 => konI ?_))
    have hO1 := hOK.tr hx1
    have hS1 : St g h1 s t c r f ((heaF (goF w cr q).1 ((goF w cr q).1 0).toNat).1) := hSK.nx hx1 hw1 hA.1 hA.2.1.2.1
    have hdh : ∀ j, j < ((goF w cr q).1 0).toNat → h1 f j = (heaF (goF w cr q).1 ((goF w cr q).1 0).toNat).2.1 j := hdd1
    refine addV dX7_goOn_16 (v := ((((goF w cr q).2 + (heaF (goF w cr q).1 ((goF w cr q).1 0).toNat).2.2) : Nat) : Int)) (by rw [wid (by omega) (by omega)]; omega) ?_
    refine iS3 dX7_goOn_17 ?_
    refine aL0 dX7_goOn_18 ?_
    refine invV0 rfl dX7_goOn_19 kX7_27 hS.o (Nat.le_of_ble_eq_true rfl) (Nat.zero_le _) (Nat.zero_le _) (C_X7_growHungry hS1 (fun h2 hx2 hw2 => konV ?_))
    have hO2 := hO1.tr (hx2.twS (fun q hq => hq))
    have hS2 : St g h2 s t c r f (hurA (goF w cr q).1) := hS1.nx (hx2.twS (fun q hq => hq)) (by rw [hA.2.1.1.1] at hw2; exact hw2) hB.1 (fun i hi => (hB.2.2.1 i hi).trans (hA.2.1.2.1 i hi).symm)
    have hdg : ∀ j, j < ((goF w cr q).1 0).toNat → h2 f j = (heaF (goF w cr q).1 ((goF w cr q).1 0).toNat).2.1 j := fun j hj => by rw [hS1.fk hx2 (fun q hq => Or.inl hq)]; exact hdh j hj
    refine iL2 dX7_goOn_22 ?_
    refine R_ifB_eq dX7_goOn_23 (fun hb23 => ?_) (fun hb23 => ?_)
    · have hS3 : St g h2 s t c r f (hurB (goF w cr q).1 cr) := by rw [show hurB (goF w cr q).1 cr = hurA (goF w cr q).1 from by unfold hurB; rw [hb23]; rfl]; exact hS2
      refine aL0 dX7_goOn_30 ?_
      refine invV0 rfl dX7_goOn_31 kX7_33 hS.o (Nat.le_of_ble_eq_true rfl) (Nat.zero_le _) (Nat.zero_le _) (C_X7_turnHour hS3 (fun h4 hx4 hw4 => konV ?_))
      have hO4 := hO2.tr (hx4.twS (fun q hq => hq))
      have hS4 : St g h4 s t c r f (hurW (goF w cr q).1 cr) := hS3.nx (hx4.twS (fun q hq => hq)) hw4 hD.1 (fun i hi => (hD.2.2 i hi).trans (hC.2.2.1 i hi).symm)
      refine iInc4 dX7_goOn_34 (winc (by omega)) ?_
      refine R_goto dX7_goOn_37 ?_
      exact eqI3 (rfl) (ihq (by omega) _ hS4 hO4)
    · refine aL0 dX7_goOn_26 ?_
      refine invV0 rfl dX7_goOn_27 kX7_30 hS.o (Nat.le_of_ble_eq_true rfl) (Nat.zero_le _) (Nat.zero_le _) (C_X7_drawCrumbs hS2 (hd := (heaF (goF w cr q).1 ((goF w cr q).1 0).toNat).2.1) (fun j hj => hdg j (by rw [hB.2.1.1] at hj; exact hj)) (fun j hj => by rw [hB.2.1.1] at hj; rw [hB.2.1.2.1]; exact hA.2.2.1 j hj) (fun h5 hx5 hw5 => konV ?_))
      have hO5 := hO2.tr hx5
      have hS5 : St g h5 s t c r f (hurB (goF w cr q).1 cr) := hS2.nx hx5 (by unfold hurB; rw [if_pos hb23]; rw [hB.2.1.1] at hw5; exact hw5) hC.1 (fun i hi => (hC.2.2.1 i hi).trans (hB.2.2.1 i hi).symm)
      have hS6 := hS5
      refine aL0 dX7_goOn_30 ?_
      refine invV0 rfl dX7_goOn_31 kX7_33 hS.o (Nat.le_of_ble_eq_true rfl) (Nat.zero_le _) (Nat.zero_le _) (C_X7_turnHour hS6 (fun h7 hx7 hw7 => konV ?_))
      have hO7 := hO5.tr (hx7.twS (fun q hq => hq))
      have hS7 : St g h7 s t c r f (hurW (goF w cr q).1 cr) := hS6.nx (hx7.twS (fun q hq => hq)) hw7 hD.1 (fun i hi => (hD.2.2 i hi).trans (hC.2.2.1 i hi).symm)
      refine iInc4 dX7_goOn_34 (winc (by omega)) ?_
      refine R_goto dX7_goOn_37 ?_
      exact eqI3 (rfl) (ihq (by omega) _ hS7 hO7)
