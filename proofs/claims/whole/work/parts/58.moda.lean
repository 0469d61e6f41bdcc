/-- what an hour of the model changes: the world, scratch -/
def mbs (M : Nat) : Nat → Prop := fun q => q = M + 1 ∨ mqs M q
def Mb (M : Nat) (h h' : Hc) : Prop := Off (mbs M) h h' ∧ ∀ k, k < 18 → h' M k = h M k
theorem Mb.rf (M : Nat) (h : Hc) : Mb M h h := ⟨Off.rf _ _, fun _ _ => rfl⟩
theorem Mb.tr {M : Nat} {h1 h2 h3 : Hc} (a : Mb M h1 h2) (b : Mb M h2 h3) : Mb M h1 h3 := ⟨a.1.tr b.1, fun k hk => (b.2 k hk).trans (a.2 k hk)⟩
theorem Mz.b {M : Nat} {h h' : Hc} (a : Mz M h h') : Mb M h h' := ⟨a.1.mono (fun _ hq => Or.inr hq), a.2⟩
theorem Mq.b {M : Nat} {h h' : Hc} (a : Mq M h h') : Mb M h h' := a.z.b
theorem Mb.arr {M : Nat} {h h' : Hc} (a : Mb M h h') {b k : Nat} {v : Int} (hb : b = M + 1 ∨ b = M + 8 ∨ (M + 10 ≤ b ∧ b ≤ M + 18)) : Mb M h (updH h' b k v) := ⟨a.1.upd (by unfold mbs mqs; omega), fun i hi => by rw [updH_a (by omega)]; exact a.2 i hi⟩
theorem Mb.h9 {M : Nat} {h h' : Hc} (a : Mb M h h') : h' (M + 9) = h (M + 9) := a.1 _ (by unfold mbs mqs; omega)
def mos (M : Nat) : Nat → Prop := fun q => q = M + 9 ∨ mbs M q
def Mo (M : Nat) (h h' : Hc) : Prop := Off (mos M) h h' ∧ ∀ k, k < 18 → h' M k = h M k
theorem Mo.rf (M : Nat) (h : Hc) : Mo M h h := ⟨Off.rf _ _, fun _ _ => rfl⟩
theorem Mo.tr {M : Nat} {h1 h2 h3 : Hc} (a : Mo M h1 h2) (b : Mo M h2 h3) : Mo M h1 h3 := ⟨a.1.tr b.1, fun k hk => (b.2 k hk).trans (a.2 k hk)⟩
theorem Mb.o {M : Nat} {h h' : Hc} (a : Mb M h h') : Mo M h h' := ⟨a.1.mono (fun _ hq => Or.inr hq), a.2⟩
theorem Mq.o {M : Nat} {h h' : Hc} (a : Mq M h h') : Mo M h h' := a.b.o
theorem Mz.o {M : Nat} {h h' : Hc} (a : Mz M h h') : Mo M h h' := a.b.o
theorem Mo.arr {M : Nat} {h h' : Hc} (a : Mo M h h') {b k : Nat} {v : Int} (hb : b = M + 1 ∨ b = M + 8 ∨ (M + 9 ≤ b ∧ b ≤ M + 18)) : Mo M h (updH h' b k v) := ⟨a.1.upd (by unfold mos mbs mqs; omega), fun i hi => by rw [updH_a (by omega)]; exact a.2 i hi⟩
/-- the log's rows go down, from the row k on -/
def shW (w : Nat → Int) (k : Nat) : Nat → Int := fun i => if 156 + k < i ∧ i < 516 then w (i - 6) else w i
theorem shW_0 (w : Nat → Int) : shW w 359 = w := by funext i; unfold shW; rw [if_neg (by omega)]
theorem shW_s {w : Nat → Int} {k : Nat} (h6 : 6 ≤ k) (h9 : k ≤ 359) : updW (shW w k) (156 + k) (shW w k (156 + k - 6)) = shW w (k - 1) := by
  funext i
  unfold updW shW
  by_cases e : i = 156 + k
  · rw [if_pos e, if_neg (by omega), if_pos (by omega), e]
  · rw [if_neg e]
    by_cases e2 : 156 + k < i ∧ i < 516
    · rw [if_pos e2, if_pos (by omega)]
    · rw [if_neg e2, if_neg (by omega)]
theorem shW_log {w : Nat → Int} {x k j p : Int} : updW (updW (updW (updW (updW (updW (updW (shW w 5) 156 (w 5)) 157 (w 4)) 158 x) 159 k) 160 j) 161 p) 6 (if w 6 + 1 < 60 then w 6 + 1 else 60) = logW w x k j p := by
  funext i
  unfold updW logW shW
  by_cases h6 : i = 6
  · rw [if_pos h6, if_pos h6]
  rw [if_neg h6, if_neg h6]
  by_cases h1 : i = 161
  · rw [if_pos h1, if_neg (by omega), if_neg (by omega), if_neg (by omega), if_neg (by omega), if_neg (by omega), if_neg (by omega), if_pos h1]
  rw [if_neg h1]
  by_cases h2 : i = 160
  · rw [if_pos h2, if_neg (by omega), if_neg (by omega), if_neg (by omega), if_neg (by omega), if_neg (by omega), if_pos h2]
  rw [if_neg h2]
  by_cases h3 : i = 159
  · rw [if_pos h3, if_neg (by omega), if_neg (by omega), if_neg (by omega), if_neg (by omega), if_pos h3]
  rw [if_neg h3]
  by_cases h4 : i = 158
  · rw [if_pos h4, if_neg (by omega), if_neg (by omega), if_neg (by omega), if_pos h4]
  rw [if_neg h4]
  by_cases h5 : i = 157
  · rw [if_pos h5, if_neg (by omega), if_neg (by omega), if_pos h5]
  rw [if_neg h5]
  by_cases h7 : i = 156
  · rw [if_pos h7, if_neg (by omega), if_pos h7]
  rw [if_neg h7]
  by_cases h8 : i < 156 ∨ 516 ≤ i
  · rw [if_pos h8, if_neg (by omega)]
  · rw [if_neg h8, if_neg h7, if_neg h5, if_neg h4, if_neg h3, if_neg h2, if_neg h1, if_pos (by omega)]
set_option maxHeartbeats 1000000 in
theorem C_X12_tells {d : Nat} {g : Gs} {h : Hc} {P : Po} {M : Nat} {u : Nat → Int} (hG : MdG g M) (hW : h (M + 1) = u) (hf : WF u) {x k j p : Int} (K : ∀ h', Mb M h h' → h' (M + 1) = logW u x k j p → P (.inl none) g h') : Call (d + 0) 0 0 mX12_tells [vR M, vI x, vI k, vI j, vI p] g h P := by
  refine Call_of rfl ⟨by decide +kernel, rfl⟩ (Nat.le_of_ble_eq_true rfl) rfl ?_
  have hM : Mb M h h := Mb.rf _ _
  refine R_sipush dX12_tells_0 (by decide) ?_
  refine iS5 dX12_tells_3 ?_
  refine eqI5 (v := 359 - ((0 : Nat) : Int)) (by omega) ?_
  refine loopN (354) (fun q => ∀ hK : Hc, Mb M h hK → hK (M + 1) = (shW u (359 - q)) → Run (d + 0) 0 0 mX12_tells 5 [vR M, vI x, vI k, vI j, vI p, vI (359 - (q : Int))] [] g hK P) (fun q hcnq ihq hK hM hW => ?_) (0) (Nat.zero_le _) _ hM (by rw [hW, shW_0])
  refine iL5 dX12_tells_5 ?_
  refine R_bipush dX12_tells_7 (by decide) ?_
  refine R_icmp_lt dX12_tells_9 (fun hb9 => ?_) (fun hb9 => ?_)
  · have e9 : 359 - q = 5 := by omega
    rw [e9] at hW
    refine aL0 dX12_tells_43 ?_
    refine R_getR dX12_tells_44 fX12_13.r hG.o rfl ?_
    refine R_sipush dX12_tells_47 (by decide) ?_
    refine aL0 dX12_tells_50 ?_
    refine R_getR dX12_tells_51 fX12_13.r hG.o rfl ?_
    refine R_iconst_5 dX12_tells_54 ?_
    refine ialdN (k := 5) dX12_tells_55 hG.a1 rfl (by decide) ?_
    refine topV (v := (shW u 5) 5) (congrFun hW _) ?_
    have hq1 := hf.day
    refine topV (v := u 5) (rfl) ?_
    refine iastN (k := 156) dX12_tells_56 hG.a1 rfl (by decide) ?_
    refine storH (fun h2 e2 => ?_)
    have hM0 := hM
    have hW0 := hW
    replace hM : Mb M h h2 := by rw [e2]; exact hM0.arr (by omega)
    replace hW : h2 (M + 1) = (updW (shW u 5) 156 (u 5)) := by rw [e2, updH_r, hW0]
    refine aL0 dX12_tells_57 ?_
    refine R_getR dX12_tells_58 fX12_13.r hG.o rfl ?_
    refine R_sipush dX12_tells_61 (by decide) ?_
    refine aL0 dX12_tells_64 ?_
    refine R_getR dX12_tells_65 fX12_13.r hG.o rfl ?_
    refine R_iconst_4 dX12_tells_68 ?_
    refine ialdN (k := 4) dX12_tells_69 hG.a1 rfl (by decide) ?_
    refine topV (v := (updW (shW u 5) 156 (u 5)) 4) (congrFun hW _) ?_
    have hq3 := hf.hou
    refine topV (v := u 4) (rfl) ?_
    refine iastN (k := 157) dX12_tells_70 hG.a1 rfl (by decide) ?_
    refine storH (fun h4 e4 => ?_)
    have hM0 := hM
    have hW0 := hW
    replace hM : Mb M h h4 := by rw [e4]; exact hM0.arr (by omega)
    replace hW : h4 (M + 1) = (updW (updW (shW u 5) 156 (u 5)) 157 (u 4)) := by rw [e4, updH_r, hW0]
    refine aL0 dX12_tells_71 ?_
    refine R_getR dX12_tells_72 fX12_13.r hG.o rfl ?_
    refine R_sipush dX12_tells_75 (by decide) ?_
    refine iL1 dX12_tells_78 ?_
    refine iastN (k := 158) dX12_tells_79 hG.a1 rfl (by decide) ?_
    refine storH (fun h5 e5 => ?_)
    have hM0 := hM
    have hW0 := hW
    replace hM : Mb M h h5 := by rw [e5]; exact hM0.arr (by omega)
    replace hW : h5 (M + 1) = (updW (updW (updW (shW u 5) 156 (u 5)) 157 (u 4)) 158 x) := by rw [e5, updH_r, hW0]
    refine aL0 dX12_tells_80 ?_
    refine R_getR dX12_tells_81 fX12_13.r hG.o rfl ?_
    refine R_sipush dX12_tells_84 (by decide) ?_
    refine iL2 dX12_tells_87 ?_
    refine iastN (k := 159) dX12_tells_88 hG.a1 rfl (by decide) ?_
    refine storH (fun h6 e6 => ?_)
    have hM0 := hM
    have hW0 := hW
    replace hM : Mb M h h6 := by rw [e6]; exact hM0.arr (by omega)
    replace hW : h6 (M + 1) = (updW (updW (updW (updW (shW u 5) 156 (u 5)) 157 (u 4)) 158 x) 159 k) := by rw [e6, updH_r, hW0]
    refine aL0 dX12_tells_89 ?_
    refine R_getR dX12_tells_90 fX12_13.r hG.o rfl ?_
    refine R_sipush dX12_tells_93 (by decide) ?_
    refine iL3 dX12_tells_96 ?_
    refine iastN (k := 160) dX12_tells_97 hG.a1 rfl (by decide) ?_
    refine storH (fun h7 e7 => ?_)
    have hM0 := hM
    have hW0 := hW
    replace hM : Mb M h h7 := by rw [e7]; exact hM0.arr (by omega)
    replace hW : h7 (M + 1) = (updW (updW (updW (updW (updW (shW u 5) 156 (u 5)) 157 (u 4)) 158 x) 159 k) 160 j) := by rw [e7, updH_r, hW0]
    refine aL0 dX12_tells_98 ?_
    refine R_getR dX12_tells_99 fX12_13.r hG.o rfl ?_
    refine R_sipush dX12_tells_102 (by decide) ?_
    refine iL4 dX12_tells_105 ?_
    refine iastN (k := 161) dX12_tells_107 hG.a1 rfl (by decide) ?_
    refine storH (fun h8 e8 => ?_)
    have hM0 := hM
    have hW0 := hW
    replace hM : Mb M h h8 := by rw [e8]; exact hM0.arr (by omega)
    replace hW : h8 (M + 1) = (updW (updW (updW (updW (updW (updW (shW u 5) 156 (u 5)) 157 (u 4)) 158 x) 159 k) 160 j) 161 p) := by rw [e8, updH_r, hW0]
    refine aL0 dX12_tells_108 ?_
    refine R_getR dX12_tells_109 fX12_13.r hG.o rfl ?_
    refine R_bipush dX12_tells_112 (by decide) ?_
    refine R_bipush dX12_tells_114 (by decide) ?_
    refine aL0 dX12_tells_116 ?_
    refine R_getR dX12_tells_117 fX12_13.r hG.o rfl ?_
    refine R_bipush dX12_tells_120 (by decide) ?_
    refine ialdN (k := 6) dX12_tells_122 hG.a1 rfl (by decide) ?_
    refine topV (v := (updW (updW (updW (updW (updW (updW (shW u 5) 156 (u 5)) 157 (u 4)) 158 x) 159 k) 160 j) 161 p) 6) (congrFun hW _) ?_
    have hq9 := hf.log
    refine topV (v := u 6) (rfl) ?_
    have hlg := hf.log
    refine R_iconst_1 dX12_tells_123 ?_
    refine addV dX12_tells_124 (wid (by omega) (by omega)) ?_
    refine R_mmin dX12_tells_125 kX12_318 lb_min (Nat.le_of_ble_eq_true rfl) ?_
    refine topV (v := (if u 6 + 1 < 60 then u 6 + 1 else 60)) (rfl) ?_
    refine iastN (k := 6) dX12_tells_128 hG.a1 rfl (by decide) ?_
    refine storH (fun h10 e10 => ?_)
    have hM0 := hM
    have hW0 := hW
    replace hM : Mb M h h10 := by rw [e10]; exact hM0.arr (by omega)
    replace hW : h10 (M + 1) = (updW (updW (updW (updW (updW (updW (updW (shW u 5) 156 (u 5)) 157 (u 4)) 158 x) 159 k) 160 j) 161 p) 6 ((if u 6 + 1 < 60 then u 6 + 1 else 60))) := by rw [e10, updH_r, hW0]
    exact R_vret dX12_tells_129 rfl (K _ hM (by rw [hW]; exact shW_log))
  · refine aL0 dX12_tells_12 ?_
    refine R_getR dX12_tells_13 fX12_13.r hG.o rfl ?_
    refine R_sipush dX12_tells_16 (by decide) ?_
    refine iL5 dX12_tells_19 ?_
    refine addV dX12_tells_21 (wid (by omega) (by omega)) ?_
    refine topV (v := (((156 + (359 - q)) : Nat) : Int)) (by omega) ?_
    refine aL0 dX12_tells_22 ?_
    refine R_getR dX12_tells_23 fX12_13.r hG.o rfl ?_
    refine R_sipush dX12_tells_26 (by decide) ?_
    refine iL5 dX12_tells_29 ?_
    refine addV dX12_tells_31 (wid (by omega) (by omega)) ?_
    refine R_bipush dX12_tells_32 (by decide) ?_
    refine subV dX12_tells_34 (wid (by omega) (by omega)) ?_
    refine topV (v := (((156 + (359 - q) - 6) : Nat) : Int)) (by omega) ?_
    refine ialdN dX12_tells_35 hG.a1 rfl (by omega) ?_
    refine topV (v := (shW u (359 - q)) (156 + (359 - q) - 6)) (congrFun hW _) ?_
    refine iastN dX12_tells_36 hG.a1 rfl (by omega) ?_
    refine storH (fun h11 e11 => ?_)
    have hM0 := hM
    have hW0 := hW
    replace hM : Mb M h h11 := by rw [e11]; exact hM0.arr (by omega)
    replace hW : h11 (M + 1) = (updW (shW u (359 - q)) (156 + (359 - q)) ((shW u (359 - q)) (156 + (359 - q) - 6))) := by rw [e11, updH_r, hW0]
    refine iInc5 dX12_tells_37 (wid (by omega) (by omega)) ?_
    refine R_goto dX12_tells_40 ?_
    exact eqI5 (by omega) (ihq (by omega) _ hM (by rw [hW, show 359 - (q + 1) = 359 - q - 1 by omega, ← shW_s (k := 359 - q) (by omega) (by omega)]))
set_option maxHeartbeats 1000000 in
theorem C_X12_finds {d : Nat} {g : Gs} {h : Hc} {P : Po} {M : Nat} {u : Nat → Int} (hG : MdG g M) (hW : h (M + 1) = u) (hf : WF u) (hl : LawOK u) {j x : Nat} (hj : j < 5) (hx : (x : Int) < u 1) (hH : h (M + 9) j = (x : Int)) (K : ∀ h', Mb M h h' → h' (M + 1) = findP u j x (pt0 u j x (u 4)) → P (.inl none) g h') : Call (d + 9) 0 0 mX12_finds [vR M, vI ((j : Nat) : Int)] g h P := by
  have hcs := hf.cas
  refine Call_of rfl ⟨by decide +kernel, rfl⟩ (Nat.le_of_ble_eq_true rfl) rfl ?_
  have hM : Mb M h h := Mb.rf _ _
  refine aL0 dX12_finds_0 ?_
  refine R_getR dX12_finds_1 fX12_42.r hG.o rfl ?_
  refine iL1 dX12_finds_4 ?_
  refine ialdN dX12_finds_5 hG.a9 rfl (by omega) ?_
  refine topV (v := ((x : Nat) : Int)) (hH) ?_
  refine iS2 dX12_finds_6 ?_
  refine aL0 dX12_finds_7 ?_
  refine iL1 dX12_finds_8 ?_
  refine iL2 dX12_finds_9 ?_
  refine invV2 rfl dX12_finds_10 kX12_310 hG.o (Nat.le_of_ble_eq_true rfl) (Nat.zero_le _) (Nat.zero_le _) (C_X12_pointNow hG hW hf hl (by omega) (by omega) (fun h1 hx1 => konI ?_))
  replace hM := hM.tr (Mq.b hx1)
  replace hW := hx1.w hW
  have hfd := fnd_rng (pt0 u j x (u 4))
  refine iS3 dX12_finds_13 ?_
  refine aL0 dX12_finds_14 ?_
  refine R_getR dX12_finds_15 fX12_13.r hG.o rfl ?_
  refine iL2 dX12_finds_18 ?_
  refine R_iconst_4 dX12_finds_19 ?_
  refine invS2 rfl dX12_finds_20 kX12_84 (Nat.le_of_ble_eq_true rfl) (Nat.zero_le _) (Nat.zero_le _) (C_X12_at (b := 4) (i := (104 + 7 * x)) (by omega) (by omega) (konI ?_))
  suffices J2 : Run (d + 9) 0 0 mX12_finds 32 [vR M, vI ((j : Nat) : Int), vI ((x : Nat) : Int), vI (pt0 u j x (u 4))] [vI (fnd (pt0 u j x (u 4))), vI (((104 + 7 * x) : Nat) : Int), vR (M + 1)] g h1 P by
    refine iL3 dX12_finds_23 ?_
    refine R_if_lt dX12_finds_24 (fun hb24 => ?_) (fun hb24 => ?_)
    · refine R_iconst_2 dX12_finds_31 ?_
      exact topV (v := fnd (pt0 u j x (u 4))) (by unfold fnd; first | (rw [if_pos (by omega)]; done) | (rw [if_neg (by omega)]; done)) J2
    · refine R_iconst_1 dX12_finds_27 ?_
      refine R_goto dX12_finds_28 ?_
      exact topV (v := fnd (pt0 u j x (u 4))) (by unfold fnd; first | (rw [if_pos (by omega)]; done) | (rw [if_neg (by omega)]; done)) J2
  refine iastN dX12_finds_32 hG.a1 rfl (by omega) ?_
  refine storH (fun h3 e3 => ?_)
  have hM0 := hM
  have hW0 := hW
  replace hM : Mb M h h3 := by rw [e3]; exact hM0.arr (by omega)
  replace hW : h3 (M + 1) = (updW u (104 + 7 * x) (fnd (pt0 u j x (u 4)))) := by rw [e3, updH_r, hW0]
  have hf0 := hf
  replace hf : WF (updW u (104 + 7 * x) (fnd (pt0 u j x (u 4)))) := hf0.ust (by omega) (by omega) (by omega)
  refine aL0 dX12_finds_33 ?_
  refine R_getR dX12_finds_34 fX12_13.r hG.o rfl ?_
  refine iL2 dX12_finds_37 ?_
  refine R_iconst_5 dX12_finds_38 ?_
  refine invS2 rfl dX12_finds_39 kX12_84 (Nat.le_of_ble_eq_true rfl) (Nat.zero_le _) (Nat.zero_le _) (C_X12_at (b := 5) (i := (105 + 7 * x)) (by omega) (by omega) (konI ?_))
  refine iL1 dX12_finds_42 ?_
  refine iastN dX12_finds_43 hG.a1 rfl (by omega) ?_
  refine storH (fun h4 e4 => ?_)
  have hM0 := hM
  have hW0 := hW
  replace hM : Mb M h h4 := by rw [e4]; exact hM0.arr (by omega)
  replace hW : h4 (M + 1) = (updW (updW u (104 + 7 * x) (fnd (pt0 u j x (u 4)))) (105 + 7 * x) ((j : Nat) : Int)) := by rw [e4, updH_r, hW0]
  have hf1 := hf
  replace hf : WF (updW (updW u (104 + 7 * x) (fnd (pt0 u j x (u 4)))) (105 + 7 * x) j) := hf1.uby (by omega) (by omega)
  refine aL0 dX12_finds_44 ?_
  refine R_getR dX12_finds_45 fX12_13.r hG.o rfl ?_
  refine iL2 dX12_finds_48 ?_
  refine R_bipush dX12_finds_49 (by decide) ?_
  refine invS2 rfl dX12_finds_51 kX12_84 (Nat.le_of_ble_eq_true rfl) (Nat.zero_le _) (Nat.zero_le _) (C_X12_at (b := 6) (i := (106 + 7 * x)) (by omega) (by omega) (konI ?_))
  refine aL0 dX12_finds_54 ?_
  refine R_getR dX12_finds_55 fX12_13.r hG.o rfl ?_
  refine R_iconst_5 dX12_finds_58 ?_
  refine ialdN (k := 5) dX12_finds_59 hG.a1 rfl (by decide) ?_
  refine topV (v := (updW (updW u (104 + 7 * x) (fnd (pt0 u j x (u 4)))) (105 + 7 * x) ((j : Nat) : Int)) 5) (congrFun hW _) ?_
  have hq5 := hf.day
  refine topV (v := u 5) (by rw [updW_n (by omega), updW_n (by omega)]) ?_
  refine iastN dX12_finds_60 hG.a1 rfl (by omega) ?_
  refine storH (fun h6 e6 => ?_)
  have hM0 := hM
  have hW0 := hW
  replace hM : Mb M h h6 := by rw [e6]; exact hM0.arr (by omega)
  replace hW : h6 (M + 1) = (updW (updW (updW u (104 + 7 * x) (fnd (pt0 u j x (u 4)))) (105 + 7 * x) ((j : Nat) : Int)) (106 + 7 * x) (u 5)) := by rw [e6, updH_r, hW0]
  have hf2 := hf
  have hdy := hf0.day
  replace hf : WF (updW (updW (updW u (104 + 7 * x) (fnd (pt0 u j x (u 4)))) (105 + 7 * x) j) (106 + 7 * x) (u 5)) := hf2.udy (by omega) (by omega)
  refine aL0 dX12_finds_61 ?_
  refine iL2 dX12_finds_62 ?_
  suffices J7 : Run (d + 9) 0 0 mX12_finds 72 [vR M, vI ((j : Nat) : Int), vI ((x : Nat) : Int), vI (pt0 u j x (u 4))] [vI ((if 0 ≤ pt0 u j x (u 4) then 0 else 1)), vI ((x : Nat) : Int), vR M] g h6 P by
    refine iL3 dX12_finds_63 ?_
    refine R_if_lt dX12_finds_64 (fun hb64 => ?_) (fun hb64 => ?_)
    · refine R_iconst_1 dX12_finds_71 ?_
      exact topV (v := (if 0 ≤ pt0 u j x (u 4) then 0 else 1)) (by first | (rw [if_pos (by omega)]; done) | (rw [if_neg (by omega)]; done)) J7
    · refine R_iconst_0 dX12_finds_67 ?_
      refine R_goto dX12_finds_68 ?_
      exact topV (v := (if 0 ≤ pt0 u j x (u 4) then 0 else 1)) (by first | (rw [if_pos (by omega)]; done) | (rw [if_neg (by omega)]; done)) J7
  refine iL1 dX12_finds_72 ?_
  refine iL3 dX12_finds_73 ?_
  refine invV4 rfl dX12_finds_74 kX12_324 hG.o (Nat.le_of_ble_eq_true rfl) (Nat.zero_le _) (Nat.zero_le _) (C_X12_tells hG hW hf (fun h8 hx8 hy8 => konV ?_))
  replace hM := hM.tr hx8
  replace hW : h8 (M + 1) = (logW (updW (updW (updW u (104 + 7 * x) (fnd (pt0 u j x (u 4)))) (105 + 7 * x) ((j : Nat) : Int)) (106 + 7 * x) (u 5)) ((x : Nat) : Int) ((if 0 ≤ pt0 u j x (u 4) then 0 else 1)) ((j : Nat) : Int) (pt0 u j x (u 4))) := hy8
  exact R_vret dX12_finds_77 rfl (K _ hM hW)
set_option maxHeartbeats 1000000 in
theorem C_X12_hasCrumbs {d : Nat} {g : Gs} {h : Hc} {P : Po} {M : Nat} {u : Nat → Int} (hG : MdG g M) (hW : h (M + 1) = u) (hf : WF u) {j : Nat} (hj : j < 5) (K : ∀ h', Mb M h h' → h' (M + 1) = crmW u j → P (.inl none) g h') : Call (d + 4) 0 0 mX12_hasCrumbs [vR M, vI ((j : Nat) : Int)] g h P := by
  refine Call_of rfl ⟨by decide +kernel, rfl⟩ (Nat.le_of_ble_eq_true rfl) rfl ?_
  have hM : Mb M h h := Mb.rf _ _
  refine aL0 dX12_hasCrumbs_0 ?_
  refine R_getR dX12_hasCrumbs_1 fX12_13.r hG.o rfl ?_
  refine iL1 dX12_hasCrumbs_4 ?_
  refine R_iconst_0 dX12_hasCrumbs_5 ?_
  refine invS2 rfl dX12_hasCrumbs_6 kX12_80 (Nat.le_of_ble_eq_true rfl) (Nat.zero_le _) (Nat.zero_le _) (C_X12_judgeAt (b := 0) (i := (80 + 4 * j)) (by omega) (by omega) (konI ?_))
  refine R_iconst_0 dX12_hasCrumbs_9 ?_
  refine iastN dX12_hasCrumbs_10 hG.a1 rfl (by omega) ?_
  refine storH (fun h1 e1 => ?_)
  have hM0 := hM
  have hW0 := hW
  replace hM : Mb M h h1 := by rw [e1]; exact hM0.arr (by omega)
  replace hW : h1 (M + 1) = (updW u (80 + 4 * j) 0) := by rw [e1, updH_r, hW0]
  have hf0 := hf
  have hcs0 := hf.cas
  replace hf : WF (updW u (80 + 4 * j) 0) := hf0.uhu (by omega) (by omega)
  have hk1 : (updW u (80 + 4 * j) 0) 1 = u 1 := updW_n (by omega)
  refine aL0 dX12_hasCrumbs_11 ?_
  refine iL1 dX12_hasCrumbs_12 ?_
  refine invV1 rfl dX12_hasCrumbs_13 kX12_340 hG.o (Nat.le_of_ble_eq_true rfl) (Nat.zero_le _) (Nat.zero_le _) (C_X12_undoneBy hG hW hf (konI ?_))
  refine iS2 dX12_hasCrumbs_16 ?_
  refine R_iconst_0 dX12_hasCrumbs_17 ?_
  refine iS3 dX12_hasCrumbs_18 ?_
  have hfV := hf
  refine loopN ((u 1).toNat) (fun c => ∀ hK : Hc, Mb M h hK → hK (M + 1) = (undF (updW u (80 + 4 * j) 0) j (crum (updW u (80 + 4 * j) 0) (j : Int)) c) → Run (d + 4) 0 0 mX12_hasCrumbs 19 [vR M, vI ((j : Nat) : Int), vI (crum (updW u (80 + 4 * j) 0) ((j : Nat) : Int)), vI ((c : Nat) : Int)] [] g hK P) (fun c hcnc ihc hK hM hW => ?_) (0) (Nat.zero_le _) _ hM hW
  obtain ⟨hf, hkp⟩ := undF_ok hfV (j := j) hj (crum (updW u (80 + 4 * j) 0) (j : Int)) c (by rw [hk1]; omega)
  have hkc := hkp.1.2.1.trans hk1
  have hcs := hf.cas
  refine iL3 dX12_hasCrumbs_19 ?_
  refine aL0 dX12_hasCrumbs_20 ?_
  refine invV0 rfl dX12_hasCrumbs_21 kX12_90 hG.o (Nat.le_of_ble_eq_true rfl) (Nat.zero_le _) (Nat.zero_le _) (C_X12_cases hG hW hf (konI ?_))
  have hcs := hf.cas
  refine R_icmp_ge dX12_hasCrumbs_24 (fun hb24 => ?_) (fun hb24 => ?_)
  · have e9 : c = (u 1).toNat := by omega
    subst e9
    exact R_vret dX12_hasCrumbs_63 rfl (K _ hM hW)
  · refine iL2 dX12_hasCrumbs_27 ?_
    refine iL3 dX12_hasCrumbs_28 ?_
    refine invS2 rfl dX12_hasCrumbs_29 kX12_328 (Nat.le_of_ble_eq_true rfl) (Nat.zero_le _) (Nat.zero_le _) (C_X12_has (by omega) (konI ?_))
    refine R_ifB_ne dX12_hasCrumbs_32 (fun hb32 => ?_) (fun hb32 => ?_)
    · refine aL0 dX12_hasCrumbs_38 ?_
      refine R_getR dX12_hasCrumbs_39 fX12_13.r hG.o rfl ?_
      refine iL3 dX12_hasCrumbs_42 ?_
      refine R_iconst_4 dX12_hasCrumbs_43 ?_
      refine invS2 rfl dX12_hasCrumbs_44 kX12_84 (Nat.le_of_ble_eq_true rfl) (Nat.zero_le _) (Nat.zero_le _) (C_X12_at (b := 4) (i := (104 + 7 * c)) (by omega) (by omega) (konI ?_))
      refine R_iconst_3 dX12_hasCrumbs_47 ?_
      refine iastN dX12_hasCrumbs_48 hG.a1 rfl (by omega) ?_
      refine storH (fun h2 e2 => ?_)
      have hM0 := hM
      have hW0 := hW
      replace hM : Mb M h h2 := by rw [e2]; exact hM0.arr (by omega)
      replace hW : h2 (M + 1) = (updW (undF (updW u (80 + 4 * j) 0) j (crum (updW u (80 + 4 * j) 0) (j : Int)) c) (104 + 7 * c) 3) := by rw [e2, updH_r, hW0]
      have hf2 := hf
      replace hf := hf2.ust (k := c) (v := 3) (by omega) (by omega) (by omega)
      refine aL0 dX12_hasCrumbs_49 ?_
      refine iL3 dX12_hasCrumbs_50 ?_
      refine R_iconst_2 dX12_hasCrumbs_51 ?_
      refine iL1 dX12_hasCrumbs_52 ?_
      refine R_iconst_0 dX12_hasCrumbs_53 ?_
      refine invV4 rfl dX12_hasCrumbs_54 kX12_324 hG.o (Nat.le_of_ble_eq_true rfl) (Nat.zero_le _) (Nat.zero_le _) (C_X12_tells hG hW hf (fun h3 hx3 hy3 => konV ?_))
      replace hM := hM.tr hx3
      replace hW : h3 (M + 1) = (logW (updW (undF (updW u (80 + 4 * j) 0) j (crum (updW u (80 + 4 * j) 0) (j : Int)) c) (104 + 7 * c) 3) ((c : Nat) : Int) 2 ((j : Nat) : Int) 0) := hy3
      refine iInc3 dX12_hasCrumbs_57 (winc (by omega)) ?_
      refine R_goto dX12_hasCrumbs_60 ?_
      exact ihc (by omega) _ hM (by rw [hW]; first | (rw [undF_f hb32]; done) | (rw [undF_t hb32]; done))
    · refine R_goto dX12_hasCrumbs_35 ?_
      refine iInc3 dX12_hasCrumbs_57 (winc (by omega)) ?_
      refine R_goto dX12_hasCrumbs_60 ?_
      exact ihc (by omega) _ hM (by rw [hW]; first | (rw [undF_f hb32]; done) | (rw [undF_t hb32]; done))
set_option maxHeartbeats 400000 in
theorem C_X12_drawn {d : Nat} {g : Gs} {h : Hc} {P : Po} {M : Nat} {u : Nat → Int} (hG : MdG g M) (hW : h (M + 1) = u) (hf : WF u) (K : ∀ h', Mb M h h' → h' (M + 1) = drwW u → P (.inl (some (vI (drwV (drwS u) % 100)))) g h') : Call (d + 0) 0 0 mX12_drawn [vR M, vI 100] g h P := by
  refine Call_of rfl ⟨by decide +kernel, rfl⟩ (Nat.le_of_ble_eq_true rfl) rfl ?_
  have hM : Mb M h h := Mb.rf _ _
  refine aL0 dX12_drawn_0 ?_
  refine R_getR dX12_drawn_1 fX12_13.r hG.o rfl ?_
  refine R_bipush dX12_drawn_4 (by decide) ?_
  refine R_ldcI dX12_drawn_6 qX12_105 (by decide) ?_
  refine aL0 dX12_drawn_8 ?_
  refine R_getR dX12_drawn_9 fX12_13.r hG.o rfl ?_
  refine R_bipush dX12_drawn_12 (by decide) ?_
  refine ialdN (k := 7) dX12_drawn_14 hG.a1 rfl (by decide) ?_
  refine topV (v := u 7) (congrFun hW _) ?_
  have hq1 := hf.see
  refine R_imul dX12_drawn_15 ?_
  refine topV (v := wrap (u 7 * 1103515245)) (by rw [Int.mul_comm]) ?_
  refine R_sipush dX12_drawn_16 (by decide) ?_
  refine R_iadd dX12_drawn_19 ?_
  refine iastN (k := 7) dX12_drawn_20 hG.a1 rfl (by decide) ?_
  refine storH (fun h2 e2 => ?_)
  have hM0 := hM
  have hW0 := hW
  replace hM : Mb M h h2 := by rw [e2]; exact hM0.arr (by omega)
  replace hW : h2 (M + 1) = (updW u 7 (wrap ((wrap (u 7 * 1103515245)) + 12345))) := by rw [e2, updH_r, hW0]
  refine aL0 dX12_drawn_21 ?_
  refine R_getR dX12_drawn_22 fX12_13.r hG.o rfl ?_
  refine R_bipush dX12_drawn_25 (by decide) ?_
  refine ialdN (k := 7) dX12_drawn_27 hG.a1 rfl (by decide) ?_
  refine topV (v := (updW u 7 (wrap ((wrap (u 7 * 1103515245)) + 12345))) 7) (congrFun hW _) ?_
  have hq3 := hf.see
  refine topV (v := drwS u) (by rw [updW_s]; rfl) ?_
  refine R_bipush dX12_drawn_28 (by decide) ?_
  refine R_ishr dX12_drawn_30 ?_
  refine R_sipush dX12_drawn_31 (by decide) ?_
  refine R_iand dX12_drawn_34 ?_
  refine topV (v := drwV (drwS u)) (rfl) ?_
  have hdr := drwV_rng (drwS u)
  refine iL1 dX12_drawn_35 ?_
  refine remV dX12_drawn_36 (by decide) (remI (by omega) (by omega) (by omega)) ?_
  exact R_iret dX12_drawn_37 rfl (K _ hM hW)
set_option maxHeartbeats 400000 in
theorem C_X12_isStruck {d : Nat} {g : Gs} {h : Hc} {P : Po} {M : Nat} {u : Nat → Int} (hG : MdG g M) (hW : h (M + 1) = u) (hf : WF u) {x : Nat} (K : ∀ h', Mb M h h' → h' (M + 1) = stW u (x : Int) → P (.inl none) g h') : Call (d + 1) 0 0 mX12_isStruck [vR M, vI ((x : Nat) : Int)] g h P := by
  refine Call_of rfl ⟨by decide +kernel, rfl⟩ (Nat.le_of_ble_eq_true rfl) rfl ?_
  have hM : Mb M h h := Mb.rf _ _
  refine aL0 dX12_isStruck_0 ?_
  refine iL1 dX12_isStruck_1 ?_
  refine invV1 rfl dX12_isStruck_2 kX12_94 hG.o (Nat.le_of_ble_eq_true rfl) (Nat.zero_le _) (Nat.zero_le _) (C_X12_placeOf hG hW hf (by omega) (konI ?_))
  have hpr2 : placeOf u (x : Int) = -1 ∨ (0 ≤ placeOf u (x : Int) ∧ placeOf u (x : Int) < 60) := by rcases placeOf_rng u (x : Int) with e8 | ⟨p8, h8, e8, _⟩ <;> omega
  refine iS2 dX12_isStruck_5 ?_
  refine iL2 dX12_isStruck_6 ?_
  refine R_iconst_m1 dX12_isStruck_7 ?_
  refine R_icmp_eq dX12_isStruck_8 (fun hb8 => ?_) (fun hb8 => ?_)
  · exact R_vret dX12_isStruck_21 rfl (K _ hM (by rw [hW]; unfold stW; first | (rw [if_neg (by omega)]; done) | (rw [if_pos (by omega)]; done)))
  · refine aL0 dX12_isStruck_11 ?_
    refine R_getR dX12_isStruck_12 fX12_13.r hG.o rfl ?_
    refine R_bipush dX12_isStruck_15 (by decide) ?_
    refine iL2 dX12_isStruck_17 ?_
    refine addV dX12_isStruck_18 (wid (by omega) (by omega)) ?_
    refine topV (v := (((20 + (placeOf u (x : Int)).toNat) : Nat) : Int)) (by omega) ?_
    refine R_iconst_m1 dX12_isStruck_19 ?_
    refine iastN dX12_isStruck_20 hG.a1 rfl (by omega) ?_
    refine storH (fun h1 e1 => ?_)
    have hM0 := hM
    have hW0 := hW
    replace hM : Mb M h h1 := by rw [e1]; exact hM0.arr (by omega)
    replace hW : h1 (M + 1) = (updW u (20 + (placeOf u (x : Int)).toNat) (-1)) := by rw [e1, updH_r, hW0]
    exact R_vret dX12_isStruck_21 rfl (K _ hM (by rw [hW]; unfold stW; first | (rw [if_neg (by omega)]; done) | (rw [if_pos (by omega)]; done)))
/-- cases below n that don't wait are struck -/
def strF (w : Nat → Int) : Nat → Nat → Int := foldN (fun c a => if w (104 + 7 * c) = 0 then a else stW a (c : Int)) w
theorem strF_t {w : Nat → Int} {n : Nat} (h : ¬ w (104 + 7 * n) = 0) : strF w (n + 1) = stW (strF w n) (n : Int) := by simp [strF, foldN_s, h]
theorem strF_f {w : Nat → Int} {n : Nat} (h : w (104 + 7 * n) = 0) : strF w (n + 1) = strF w n := by simp [strF, foldN_s, h]
def stoW (w : Nat → Int) (n : Nat) : Nat → Int := fun i => if (20 ≤ i ∧ i < 80) ∧ (0 ≤ w i ∧ w i < n) ∧ w (104 + 7 * (w i).toNat) ≠ 0 then -1 else w i
theorem stoW_n {w : Nat → Int} {n i : Nat} (h : i < 20 ∨ 80 ≤ i) : stoW w n i = w i := by unfold stoW; rw [if_neg (by omega)]
theorem stW_wf {w : Nat → Int} (f : WF w) (x : Int) : WF (stW w x) := by
  unfold stW
  split
  · rcases placeOf_rng w x with e | ⟨p, hp, e, _⟩
    · omega
    · rw [e]; exact f.upl (by omega) (Or.inl rfl)
  · exact f
theorem stoW_0 (w : Nat → Int) : stoW w 0 = w := by funext i; unfold stoW; rw [if_neg (by omega)]
theorem stW_eq {w : Nat → Int} (f : WF w) {n : Nat} : stW (stoW w n) (n : Int) = (fun i => if (20 ≤ i ∧ i < 80) ∧ w i = (n : Int) then -1 else stoW w n i) := by
  have hno : ∀ i, 20 ≤ i → i < 80 → (stoW w n i = (n : Int) ↔ w i = (n : Int)) := by
    intro i h1 h2
    unfold stoW
    split
    · constructor <;> intro h <;> omega
    · exact Iff.rfl
  unfold stW
  rcases placeOf_rng (stoW w n) (n : Int) with e | ⟨p, hp, e, hpp, _⟩
  · rw [if_neg (by omega)]
    funext i
    split
    · rename_i h
      exfalso
      have h3 := (hno i h.1.1 h.1.2).mpr h.2
      have h4 := firstB_none (p := placeP (stoW w n) (n : Int)) e (k := i - 20) (by omega)
      unfold placeP at h4
      rw [show 20 + (i - 20) = i by omega, h3] at h4
      simp at h4
    · rfl
  · rw [if_pos (by omega), e]
    have h5 : w (20 + p) = (n : Int) := (hno (20 + p) (by omega) (by omega)).mp hpp
    funext i
    unfold updW
    by_cases h6 : i = 20 + p
    · subst h6
      rw [show 20 + ((p : Nat) : Int).toNat = 20 + p by omega, if_pos rfl, if_pos ⟨by omega, h5⟩]
    · rw [show 20 + ((p : Nat) : Int).toNat = 20 + p by omega, if_neg h6]
      split
      · rename_i h
        exfalso
        have := f.one (i - 20) p (by omega) hp (by rw [show 20 + (i - 20) = i by omega, h.2, h5]) (by rw [show 20 + (i - 20) = i by omega, h.2]; omega)
        omega
      · rfl
theorem strF_eq {w : Nat → Int} (f : WF w) : ∀ n : Nat, (n : Int) ≤ w 1 → strF w n = stoW w n
  | 0, _ => (stoW_0 w).symm
  | n + 1, hn => by
    have ih := strF_eq f n (by omega)
    by_cases h : w (104 + 7 * n) = 0
    · rw [strF_f h, ih]
      funext i
      unfold stoW
      by_cases h1 : w i = (n : Int)
      · rw [if_neg (by omega), if_neg (fun q => q.2.2 (by rw [h1]; exact h))]
      · congr 1
        rw [eq_iff_iff]
        omega
    · rw [strF_t h, ih, stW_eq f]
      funext i
      by_cases h1 : (20 ≤ i ∧ i < 80) ∧ w i = (n : Int)
      · rw [if_pos h1]
        unfold stoW
        rw [if_pos ⟨h1.1, by omega, by rw [h1.2]; exact h⟩]
      · rw [if_neg h1]
        unfold stoW
        congr 1
        rw [eq_iff_iff]
        omega
theorem strF_tof {w : Nat → Int} (f : WF w) : strF w (w 1).toNat = tofW w 60 := by
  have hc := f.cas
  rw [strF_eq f _ (by omega)]
  funext i
  unfold stoW tofW
  by_cases h : 20 ≤ i ∧ i < 80
  · have hp := f.pla (i - 20) (by omega)
    rw [show 20 + (i - 20) = i by omega] at hp
    congr 1
    rw [eq_iff_iff]
    omega
  · rw [if_neg (by omega), if_neg (by omega)]
theorem strF_ok {w : Nat → Int} (f : WF w) : ∀ n : Nat, (n : Int) ≤ w 1 → WF (strF w n) ∧ strF w n 1 = w 1 ∧ ∀ c, strF w n (104 + 7 * c) = w (104 + 7 * c)
  | 0, _ => ⟨f, rfl, fun _ => rfl⟩
  | n + 1, hn => by
    have ih := strF_ok f n (by omega)
    refine ⟨?_, ?_, ?_⟩
    · by_cases h : w (104 + 7 * n) = 0
      · rw [strF_f h]; exact ih.1
      · rw [strF_t h]; exact stW_wf ih.1 _
    · rw [strF_eq f (n + 1) (by omega)]; exact stoW_n (by omega)
    · intro c; rw [strF_eq f (n + 1) (by omega)]; exact stoW_n (by omega)
set_option maxHeartbeats 1000000 in
theorem C_X12_hourEnds {d : Nat} {g : Gs} {h : Hc} {P : Po} {M : Nat} {u : Nat → Int} (hG : MdG g M) (hW : h (M + 1) = u) (hf : WF u) (K : ∀ h', Mb M h h' → h' (M + 1) = turW u → P (.inl none) g h') : Call (d + 3) 0 0 mX12_hourEnds [vR M] g h P := by
  refine Call_of rfl ⟨by decide +kernel, rfl⟩ (Nat.le_of_ble_eq_true rfl) rfl ?_
  have hM : Mb M h h := Mb.rf _ _
  refine aL0 dX12_hourEnds_0 ?_
  refine R_getR dX12_hourEnds_1 fX12_13.r hG.o rfl ?_
  refine R_iconst_4 dX12_hourEnds_4 ?_
  refine dup2IR dX12_hourEnds_5 ?_
  refine ialdN (k := 4) dX12_hourEnds_6 hG.a1 rfl (by decide) ?_
  refine topV (v := u 4) (congrFun hW _) ?_
  have hq1 := hf.hou
  have hho := hf.hou
  refine R_iconst_1 dX12_hourEnds_7 ?_
  refine addV dX12_hourEnds_8 (wid (by omega) (by omega)) ?_
  refine iastN (k := 4) dX12_hourEnds_9 hG.a1 rfl (by decide) ?_
  refine storH (fun h2 e2 => ?_)
  have hM0 := hM
  have hW0 := hW
  replace hM : Mb M h h2 := by rw [e2]; exact hM0.arr (by omega)
  replace hW : h2 (M + 1) = (updW u 4 ((u 4) + 1)) := by rw [e2, updH_r, hW0]
  refine aL0 dX12_hourEnds_10 ?_
  refine R_getR dX12_hourEnds_11 fX12_13.r hG.o rfl ?_
  refine R_iconst_4 dX12_hourEnds_14 ?_
  refine ialdN (k := 4) dX12_hourEnds_15 hG.a1 rfl (by decide) ?_
  refine topV (v := (updW u 4 ((u 4) + 1)) 4) (congrFun hW _) ?_
  have hq3 := hf.hou
  refine topV (v := u 4 + 1) (updW_s _ _ _) ?_
  refine R_bipush dX12_hourEnds_16 (by decide) ?_
  refine R_icmp_ge dX12_hourEnds_18 (fun hb18 => ?_) (fun hb18 => ?_)
  · refine aL0 dX12_hourEnds_22 ?_
    refine R_getR dX12_hourEnds_23 fX12_13.r hG.o rfl ?_
    refine R_iconst_4 dX12_hourEnds_26 ?_
    refine R_iconst_0 dX12_hourEnds_27 ?_
    refine iastN (k := 4) dX12_hourEnds_28 hG.a1 rfl (by decide) ?_
    refine storH (fun h4 e4 => ?_)
    have hM0 := hM
    have hW0 := hW
    replace hM : Mb M h h4 := by rw [e4]; exact hM0.arr (by omega)
    replace hW : h4 (M + 1) = (updW (updW u 4 ((u 4) + 1)) 4 0) := by rw [e4, updH_r, hW0]
    have hdy := hf.day
    refine aL0 dX12_hourEnds_29 ?_
    refine R_getR dX12_hourEnds_30 fX12_13.r hG.o rfl ?_
    refine R_iconst_5 dX12_hourEnds_33 ?_
    refine R_sipush dX12_hourEnds_34 (by decide) ?_
    refine aL0 dX12_hourEnds_37 ?_
    refine R_getR dX12_hourEnds_38 fX12_13.r hG.o rfl ?_
    refine R_iconst_5 dX12_hourEnds_41 ?_
    refine ialdN (k := 5) dX12_hourEnds_42 hG.a1 rfl (by decide) ?_
    refine topV (v := (updW (updW u 4 ((u 4) + 1)) 4 0) 5) (congrFun hW _) ?_
    have hq5 := hf.day
    refine topV (v := u 5) (rfl) ?_
    refine R_iconst_1 dX12_hourEnds_43 ?_
    refine addV dX12_hourEnds_44 (wid (by omega) (by omega)) ?_
    refine R_mmin dX12_hourEnds_45 kX12_318 lb_min (Nat.le_of_ble_eq_true rfl) ?_
    refine topV (v := dayN u) (rfl) ?_
    refine iastN (k := 5) dX12_hourEnds_48 hG.a1 rfl (by decide) ?_
    refine storH (fun h6 e6 => ?_)
    have hM0 := hM
    have hW0 := hW
    replace hM : Mb M h h6 := by rw [e6]; exact hM0.arr (by omega)
    replace hW : h6 (M + 1) = (updW (updW (updW u 4 ((u 4) + 1)) 4 0) 5 (dayN u)) := by rw [e6, updH_r, hW0]
    have hdn : 0 ≤ dayN u ∧ dayN u ≤ 9999 := by unfold dayN; split <;> omega
    have e3 : updW (updW (updW u 4 (u 4 + 1)) 4 0) 5 (dayN u) = (updW (updW u 4 0) 5 (dayN u)) := by
      congr 1
      funext i
      unfold updW
      by_cases e4 : i = 4
      · rw [if_pos e4, if_pos e4]
      · rw [if_neg e4, if_neg e4, if_neg e4]
    rw [e3] at hW
    replace hf : WF (updW (updW u 4 0) 5 (dayN u)) := (hf.uho (v := 0) (by omega)).uda hdn
    have hcs := hf.cas
    refine R_iconst_0 dX12_hourEnds_49 ?_
    refine iS1 dX12_hourEnds_50 ?_
    have hfV := hf
    refine loopN (((updW (updW u 4 0) 5 (dayN u)) 1).toNat) (fun c => ∀ hK : Hc, Mb M h hK → hK (M + 1) = (strF (updW (updW u 4 0) 5 (dayN u)) c) → Run (d + 3) 0 0 mX12_hourEnds 51 [vR M, vI ((c : Nat) : Int)] [] g hK P) (fun c hcnc ihc hK hM hW => ?_) (0) (Nat.zero_le _) _ hM hW
    obtain ⟨hf, hk1, hks⟩ := strF_ok hfV c (by omega)
    have hkq := hks c
    refine iL1 dX12_hourEnds_51 ?_
    refine aL0 dX12_hourEnds_52 ?_
    refine invV0 rfl dX12_hourEnds_53 kX12_90 hG.o (Nat.le_of_ble_eq_true rfl) (Nat.zero_le _) (Nat.zero_le _) (C_X12_cases hG hW hf (konI ?_))
    have hcs := hf.cas
    refine R_icmp_ge dX12_hourEnds_56 (fun hb56 => ?_) (fun hb56 => ?_)
    · have e9 : c = ((updW (updW u 4 0) 5 (dayN u)) 1).toNat := by omega
      subst e9
      exact R_vret dX12_hourEnds_78 rfl (K _ hM (by rw [hW, strF_tof hfV]; unfold turW; rw [if_neg (by omega)]))
    · refine aL0 dX12_hourEnds_59 ?_
      refine iL1 dX12_hourEnds_60 ?_
      refine invV1 rfl dX12_hourEnds_61 kX12_321 hG.o (Nat.le_of_ble_eq_true rfl) (Nat.zero_le _) (Nat.zero_le _) (C_X12_isWaiting hG hW hf (by omega) (konI ?_))
      refine R_ifB_ne dX12_hourEnds_64 (fun hb64 => ?_) (fun hb64 => ?_)
      · refine iInc1 dX12_hourEnds_72 (winc (by omega)) ?_
        refine R_goto dX12_hourEnds_75 ?_
        exact ihc (by omega) _ hM (by rw [hW]; first | (rw [strF_f (by simp at hb64; omega)]; done) | (rw [strF_t (by simp at hb64; omega)]; done))
      · refine aL0 dX12_hourEnds_67 ?_
        refine iL1 dX12_hourEnds_68 ?_
        refine invV1 rfl dX12_hourEnds_69 kX12_343 hG.o (Nat.le_of_ble_eq_true rfl) (Nat.zero_le _) (Nat.zero_le _) (C_X12_isStruck hG hW hf (fun h7 hx7 hy7 => konV ?_))
        replace hM := hM.tr hx7
        replace hW : h7 (M + 1) = (stW (strF (updW (updW u 4 0) 5 (dayN u)) c) ((c : Nat) : Int)) := hy7
        refine iInc1 dX12_hourEnds_72 (winc (by omega)) ?_
        refine R_goto dX12_hourEnds_75 ?_
        exact ihc (by omega) _ hM (by rw [hW]; first | (rw [strF_f (by simp at hb64; omega)]; done) | (rw [strF_t (by simp at hb64; omega)]; done))
  · exact R_vret dX12_hourEnds_21 rfl (K _ hM (by rw [hW]; unfold turW; rw [if_pos (by omega)]))
