def allB (p : Nat → Bool) : Nat → Bool := foldN (fun k a => a && p k) true
theorem allB_s (p : Nat → Bool) (n : Nat) : allB p (n + 1) = (allB p n && p n) := rfl
theorem allB_mono {p : Nat → Bool} {m : Nat} (h : allB p m = false) : ∀ {n : Nat}, m ≤ n → allB p n = false := by
  intro n hn
  induction n with
  | zero => rw [show m = 0 by omega] at h; exact h
  | succ n ih =>
    by_cases e : m = n + 1
    · rw [← e]; exact h
    · rw [allB_s, ih (by omega)]; rfl
theorem allB_cong {p q : Nat → Bool} {n : Nat} (h : ∀ k, k < n → p k = q k) : allB p n = allB q n := foldN_cong (fun k hk x => by rw [h k hk])
/-- a told row fits a first hunger -/
def rowB (w T : Nat → Int) (j k i : Nat) : Bool := frH w k j (T (3 * i + 1)).toNat (T (3 * i)) == decide (T (3 * i + 2) = 1)
def fitB (w T : Nat → Int) (j len k : Nat) : Bool := allB (rowB w T j k) (len / 3)
theorem nset_or {p : Nat → Bool} {q : Nat} (hq : q < 62) : orL ((nset p q : Nat) : Int) (shlL 1 (q : Int)) = ((nset p q ||| 2 ^ q : Nat) : Int) := by
  rw [shlL1 q hq]
  have h1 := nset_lt p q
  have h2 : 2 ^ q < 2 ^ 62 := Nat.pow_lt_pow_right (by decide) hq
  exact orLN (k := 62) (by omega) h2 (by decide)
def mx2 (a b : Int) : Int := if a < b then b else a
def tryN (w : Nat → Int) (j n c : Nat) : Nat := cntB (fun k => n.testBit k && frH w k j c (w 4)) 61
def tryV (w : Nat → Int) (j n c : Nat) : Int := mx2 (tryN w j n c) (pcN n - tryN w j n c)
def tryS (w : Nat → Int) (j n c : Nat) (a : Int × Int) : Int × Int := if w (104 + 7 * c) = 0 ∧ tryV w j n c < a.2 then ((c : Int), tryV w j n c) else a
def tryF (w : Nat → Int) (j n : Nat) : Nat → Int × Int := foldN (tryS w j n) (-1, pcN n + 1)
theorem tryF_s (w : Nat → Int) (j n k : Nat) : tryF w j n (k + 1) = tryS w j n k (tryF w j n k) := rfl
def tryW (w : Nat → Int) (j n : Nat) : Int := if 2 ≤ pcN n then (tryF w j n (w 1).toNat).1 else -1
theorem tryW_of {w : Nat → Int} {j n q : Nat} (h2a : pcN n < 2 → q = 0) (e : 2 ≤ pcN n → q = (w 1).toNat) : (tryF w j n q).1 = tryW w j n := by
  unfold tryW
  by_cases q9 : 2 ≤ pcN n
  · rw [if_pos q9, e q9]
  · rw [if_neg q9, h2a (by omega)]; rfl
theorem R_icmpB_ne {d kc ks : Nat} {y : Mth} {pc n t : Nat} {ls st : List AV} {g : Gs} {h : Hc} {P : Po} {a b : Bool} (hd : DI y pc (Instr.if_icmp .ne) n t) (KT : (a == b) = false → Run d kc ks y t ls st g h P) (KF : (a == b) = true → Run d kc ks y n ls st g h P) : Run d kc ks y pc ls (vI (bI b) :: vI (bI a) :: st) g h P :=
  R_icmp_ne hd (fun e => KT (by cases a <;> cases b <;> first | rfl | exact absurd rfl e)) (fun e => KF (by cases a <;> cases b <;> first | rfl | (exact absurd e (by decide))))
set_option maxHeartbeats 400000 in
theorem C_X1_fittingHungers {d : Nat} {g : Gs} {h : Hc} {P : Po} {c t r : Nat} {w : Nat → Int} (hC : Ct g h c t r w) {j b len : Nat} {T : Nat → Int} (hj : j < 5) (hb : g.1[b]? = some (13, 400, [])) (hbs : ¬ scr c r b) (hTp : ∀ i, i < len → h b i = T i) (hlen : len ≤ 45) (hl3 : len % 3 = 0) (hrow : ∀ i, 3 * i + 2 < len → (0 ≤ T (3 * i) ∧ T (3 * i) < 12) ∧ (0 ≤ T (3 * i + 1) ∧ T (3 * i + 1) < w 1) ∧ (0 ≤ T (3 * i + 2) ∧ T (3 * i + 2) ≤ 1)) (K : ∀ h', Off (scr c r) h h' → P (.inl (some (vL ((nset (fitB w T j len) 61 : Nat) : Int)))) g h') : Call (d + 4) 0 0 mX1_fittingHungers [vR c, vI ((j : Nat) : Int), vR b, vI ((len : Nat) : Int)] g h P := by
  have hcs := hC.wf.cas
  have hho := hC.wf.hou
  have hjd := hC.wf.jud
  refine Call_of rfl ⟨by decide +kernel, rfl⟩ (Nat.le_of_ble_eq_true rfl) rfl ?_
  have hO0 : Off (scr c r) h h := Off.rf _ _
  refine R_lconst_0 dX1_fittingHungers_0 ?_
  refine lS4 dX1_fittingHungers_1 ?_
  refine R_iconst_0 dX1_fittingHungers_3 ?_
  refine iS6 dX1_fittingHungers_4 ?_
  refine loopN (61) (fun q => ∀ v7 v8 : AV, ∀ hK1 : Hc, Off (scr c r) h hK1 → Run (d + 4) 0 0 mX1_fittingHungers 6 [vR c, vI ((j : Nat) : Int), vR b, vI ((len : Nat) : Int), vL (((nset (fitB w T j len) q : Nat) : Int)), vU, vI ((q : Nat) : Int), v7, v8] [] g hK1 P) (fun q hcnq ihq v7 v8 hK1 hOK1 => ?_) (0) (Nat.zero_le _) vU vU _ hO0
  have hCK1 := hC.off hOK1
  refine iL6 dX1_fittingHungers_6 ?_
  refine R_bipush dX1_fittingHungers_8 (by decide) ?_
  refine R_icmp_ge dX1_fittingHungers_10 (fun hb10 => ?_) (fun hb10 => ?_)
  · have e9 : q = 61 := by omega
    subst e9
    refine lL4 dX1_fittingHungers_100 ?_
    exact R_lret dX1_fittingHungers_102 rfl (K _ hOK1)
  · refine R_iconst_1 dX1_fittingHungers_13 ?_
    refine iS7 dX1_fittingHungers_14 ?_
    refine R_iconst_0 dX1_fittingHungers_16 ?_
    refine iS8 dX1_fittingHungers_17 ?_
    refine loopN (len / 3) (fun p => ∀ hK2 : Hc, Off (scr c r) h hK2 → Run (d + 4) 0 0 mX1_fittingHungers 19 [vR c, vI ((j : Nat) : Int), vR b, vI ((len : Nat) : Int), vL (((nset (fitB w T j len) q : Nat) : Int)), vU, vI ((q : Nat) : Int), vI (bI (allB (rowB w T j q) p)), vI (((3 * p) : Nat) : Int)] [] g hK2 P) (fun p hcnp ihp hK2 hOK2 => ?_) (0) (Nat.zero_le _) _ hOK1
    have hCK2 := hC.off hOK2
    have hrp : 3 * p + 2 < len → _ := hrow p
    refine iL8 dX1_fittingHungers_19 ?_
    refine R_iconst_2 dX1_fittingHungers_21 ?_
    refine addV dX1_fittingHungers_22 (v := ((((3 * p) + 2) : Nat) : Int)) (by rw [wid (by omega) (by omega)]; omega) ?_
    refine iL3 dX1_fittingHungers_23 ?_
    refine R_icmp_ge dX1_fittingHungers_24 (fun hb24 => ?_) (fun hb24 => ?_)
    · have e9 : p = len / 3 := by omega
      subst e9
      refine eqI7 (v := bI (fitB w T j len q)) (by first | rfl | (rw [e9])) ?_
      refine iL7 dX1_fittingHungers_80 ?_
      refine R_ifB_eq dX1_fittingHungers_82 (fun hb82 => ?_) (fun hb82 => ?_)
      · refine iInc6 dX1_fittingHungers_94 (winc (by omega)) ?_
        refine R_goto dX1_fittingHungers_97 ?_
        exact eqL4 (by first | (rw [nset_f hb82]; done) | (rw [nset_or (by omega), nset_t hb82]; done)) (ihq (by omega) _ _ _ hOK2)
      · refine lL4 dX1_fittingHungers_85 ?_
        refine R_lconst_1 dX1_fittingHungers_87 ?_
        refine iL6 dX1_fittingHungers_88 ?_
        refine R_lshl dX1_fittingHungers_90 ?_
        refine R_lor dX1_fittingHungers_91 ?_
        refine lS4 dX1_fittingHungers_92 ?_
        refine iInc6 dX1_fittingHungers_94 (winc (by omega)) ?_
        refine R_goto dX1_fittingHungers_97 ?_
        exact eqL4 (by first | (rw [nset_f hb82]; done) | (rw [nset_or (by omega), nset_t hb82]; done)) (ihq (by omega) _ _ _ hOK2)
    · refine iL7 dX1_fittingHungers_27 ?_
      refine R_ifB_eq dX1_fittingHungers_29 (fun hb29 => ?_) (fun hb29 => ?_)
      · have e9 : allB (rowB w T j q) p = fitB w T j len q := by unfold fitB; rw [hb29]; exact (allB_mono hb29 (by omega)).symm
        refine eqI7 (v := bI (fitB w T j len q)) (by first | rfl | (rw [e9])) ?_
        refine iL7 dX1_fittingHungers_80 ?_
        refine R_ifB_eq dX1_fittingHungers_82 (fun hb82 => ?_) (fun hb82 => ?_)
        · refine iInc6 dX1_fittingHungers_94 (winc (by omega)) ?_
          refine R_goto dX1_fittingHungers_97 ?_
          exact eqL4 (by first | (rw [nset_f hb82]; done) | (rw [nset_or (by omega), nset_t hb82]; done)) (ihq (by omega) _ _ _ hOK2)
        · refine lL4 dX1_fittingHungers_85 ?_
          refine R_lconst_1 dX1_fittingHungers_87 ?_
          refine iL6 dX1_fittingHungers_88 ?_
          refine R_lshl dX1_fittingHungers_90 ?_
          refine R_lor dX1_fittingHungers_91 ?_
          refine lS4 dX1_fittingHungers_92 ?_
          refine iInc6 dX1_fittingHungers_94 (winc (by omega)) ?_
          refine R_goto dX1_fittingHungers_97 ?_
          exact eqL4 (by first | (rw [nset_f hb82]; done) | (rw [nset_or (by omega), nset_t hb82]; done)) (ihq (by omega) _ _ _ hOK2)
      · obtain ⟨hr1, hr2, hr3⟩ := hrp (by omega)
        refine aL0 dX1_fittingHungers_32 ?_
        refine iL6 dX1_fittingHungers_33 ?_
        refine iL1 dX1_fittingHungers_35 ?_
        refine aL2 dX1_fittingHungers_36 ?_
        refine iL8 dX1_fittingHungers_37 ?_
        refine R_iconst_1 dX1_fittingHungers_39 ?_
        refine addV dX1_fittingHungers_40 (v := ((((3 * p) + 1) : Nat) : Int)) (by rw [wid (by omega) (by omega)]; omega) ?_
        refine ialdN dX1_fittingHungers_41 hb rfl (by omega) ?_
        refine topV (v := T ((3 * p) + 1)) (by rw [hOK2 _ hbs]; exact hTp ((3 * p) + 1) (by omega)) ?_
        refine topV (v := (((T (3 * p + 1)).toNat : Nat) : Int)) (by omega) ?_
        refine aL2 dX1_fittingHungers_42 ?_
        refine iL8 dX1_fittingHungers_43 ?_
        refine ialdN dX1_fittingHungers_45 hb rfl (by omega) ?_
        refine topV (v := T (3 * p)) (by rw [hOK2 _ hbs]; exact hTp (3 * p) (by omega)) ?_
        refine invV4 rfl dX1_fittingHungers_46 kX1_105 hC.ct (Nat.le_of_ble_eq_true rfl) (Nat.zero_le _) (Nat.zero_le _) (C_X1_freesHaving hCK2 (by omega) (by omega) (by omega) (by omega) (fun h3 hx3 => konI ?_))
        have hO3 := hOK2.tr hx3
        have hC3 := hC.off hO3
        suffices J4 : Run (d + 4) 0 0 mX1_fittingHungers 64 [vR c, vI ((j : Nat) : Int), vR b, vI ((len : Nat) : Int), vL (((nset (fitB w T j len) q : Nat) : Int)), vU, vI ((q : Nat) : Int), vI (bI (allB (rowB w T j q) p)), vI (((3 * p) : Nat) : Int)] [vI (bI (decide (T (3 * p + 2) = 1))), vI (bI (frH w q j (T (3 * p + 1)).toNat (T (3 * p))))] g h3 P by
          refine aL2 dX1_fittingHungers_49 ?_
          refine iL8 dX1_fittingHungers_50 ?_
          refine R_iconst_2 dX1_fittingHungers_52 ?_
          refine addV dX1_fittingHungers_53 (v := ((((3 * p) + 2) : Nat) : Int)) (by rw [wid (by omega) (by omega)]; omega) ?_
          refine ialdN dX1_fittingHungers_54 hb rfl (by omega) ?_
          refine topV (v := T ((3 * p) + 2)) (by rw [hO3 _ hbs]; exact hTp ((3 * p) + 2) (by omega)) ?_
          refine R_iconst_1 dX1_fittingHungers_55 ?_
          refine R_icmp_ne dX1_fittingHungers_56 (fun hb56 => ?_) (fun hb56 => ?_)
          · refine R_iconst_0 dX1_fittingHungers_63 ?_
            exact topV (v := bI (decide (T (3 * p + 2) = 1))) (by first | (rw [bI_t (by simp; omega)]) | (rw [bI_f (by simp; omega)])) J4
          · refine R_iconst_1 dX1_fittingHungers_59 ?_
            refine R_goto dX1_fittingHungers_60 ?_
            exact topV (v := bI (decide (T (3 * p + 2) = 1))) (by first | (rw [bI_t (by simp; omega)]) | (rw [bI_f (by simp; omega)])) J4
        refine R_icmpB_ne dX1_fittingHungers_64 (fun hb64 => ?_) (fun hb64 => ?_)
        · refine R_iconst_0 dX1_fittingHungers_71 ?_
          refine topV (v := bI (allB (rowB w T j q) (p + 1))) (by rw [allB_s, hb29]; unfold rowB; rw [hb64]; rfl) ?_
          refine iS7 dX1_fittingHungers_72 ?_
          refine iInc8 dX1_fittingHungers_74 (v := ((3 * (p + 1) : Nat) : Int)) (by rw [wid (by omega) (by omega)]; omega) ?_
          refine R_goto dX1_fittingHungers_77 ?_
          exact eqI7 (rfl) (ihp (by omega) _ hO3)
        · refine R_iconst_1 dX1_fittingHungers_67 ?_
          refine R_goto dX1_fittingHungers_68 ?_
          refine topV (v := bI (allB (rowB w T j q) (p + 1))) (by rw [allB_s, hb29]; unfold rowB; rw [hb64]; rfl) ?_
          refine iS7 dX1_fittingHungers_72 ?_
          refine iInc8 dX1_fittingHungers_74 (v := ((3 * (p + 1) : Nat) : Int)) (by rw [wid (by omega) (by omega)]; omega) ?_
          refine R_goto dX1_fittingHungers_77 ?_
          exact eqI7 (rfl) (ihp (by omega) _ hO3)
set_option maxHeartbeats 400000 in
theorem C_X1_freeingOf {d : Nat} {g : Gs} {h : Hc} {P : Po} {c t r : Nat} {w : Nat → Int} (hC : Ct g h c t r w) {j x n : Nat} (hj : j < 5) (hx : (x : Int) < w 1) (hn : n < 2305843009213693952) (K : ∀ h', Off (scr c r) h h' → P (.inl (some (vI (((tryN w j n x : Nat) : Int))))) g h') : Call (d + 4) 0 0 mX1_freeingOf [vR c, vI ((j : Nat) : Int), vI ((x : Nat) : Int), vL (((n : Nat) : Int))] g h P := by
  have hcs := hC.wf.cas
  have hho := hC.wf.hou
  have hjd := hC.wf.jud
  refine Call_of rfl ⟨by decide +kernel, rfl⟩ (Nat.le_of_ble_eq_true rfl) rfl ?_
  have hO0 : Off (scr c r) h h := Off.rf _ _
  refine R_iconst_0 dX1_freeingOf_0 ?_
  refine iS5 dX1_freeingOf_1 ?_
  refine R_iconst_0 dX1_freeingOf_3 ?_
  refine iS6 dX1_freeingOf_4 ?_
  refine loopN (61) (fun q => ∀ hK1 : Hc, Off (scr c r) h hK1 → Run (d + 4) 0 0 mX1_freeingOf 6 [vR c, vI ((j : Nat) : Int), vI ((x : Nat) : Int), vL (((n : Nat) : Int)), vU, vI ((cntB (fun k => n.testBit k && frH w k j x (w 4)) q : Nat) : Int), vI ((q : Nat) : Int)] [] g hK1 P) (fun q hcnq ihq hK1 hOK1 => ?_) (0) (Nat.zero_le _) _ hO0
  have hCK1 := hC.off hOK1
  have hcl := cntB_le (fun k => n.testBit k && frH w k j x (w 4)) q
  refine iL6 dX1_freeingOf_6 ?_
  refine R_bipush dX1_freeingOf_8 (by decide) ?_
  refine R_icmp_ge dX1_freeingOf_10 (fun hb10 => ?_) (fun hb10 => ?_)
  · have e9 : q = 61 := by omega
    subst e9
    refine iL5 dX1_freeingOf_51 ?_
    exact R_iret dX1_freeingOf_53 rfl (K _ hOK1)
  · refine lL3 dX1_freeingOf_13 ?_
    refine iL6 dX1_freeingOf_14 ?_
    refine R_lshr dX1_freeingOf_16 ?_
    refine R_lconst_1 dX1_freeingOf_17 ?_
    refine R_land dX1_freeingOf_18 ?_
    refine R_lconst_0 dX1_freeingOf_19 ?_
    refine R_lcmp dX1_freeingOf_20 ?_
    refine topV (v := bI (n.testBit q)) (by rw [bitL (by omega) (by omega)]; exact cmp01 _) ?_
    refine R_ifB_eq dX1_freeingOf_21 (fun hb21 => ?_) (fun hb21 => ?_)
    · refine iInc6 dX1_freeingOf_45 (winc (by omega)) ?_
      refine R_goto dX1_freeingOf_48 ?_
      exact eqI5 (by first | (rw [cntB_f (by first | (simp [hb21]; done) | (simp [hb21, hb39]; done))]; done) | (rw [cntB_t (by simp [hb21, hb39])]; done) | (rw [cntB_t (by simp [hb21, hb39])]; omega)) (ihq (by omega) _ hOK1)
    · refine aL0 dX1_freeingOf_24 ?_
      refine iL6 dX1_freeingOf_25 ?_
      refine iL1 dX1_freeingOf_27 ?_
      refine iL2 dX1_freeingOf_28 ?_
      refine aL0 dX1_freeingOf_29 ?_
      refine R_getR dX1_freeingOf_30 fX1_17.r hC.ct rfl ?_
      refine R_getI dX1_freeingOf_33 fX1_58.r hC.tg.o ?_
      refine topV (v := w 4) (hCK1.tw.s3) ?_
      have hq2 := hC.wf.hou
      refine invV4 rfl dX1_freeingOf_36 kX1_105 hC.ct (Nat.le_of_ble_eq_true rfl) (Nat.zero_le _) (Nat.zero_le _) (C_X1_freesHaving hCK1 (by omega) (by omega) (by omega) (by omega) (fun h3 hx3 => konI ?_))
      have hO3 := hOK1.tr hx3
      have hC3 := hC.off hO3
      refine R_ifB_eq dX1_freeingOf_39 (fun hb39 => ?_) (fun hb39 => ?_)
      · refine iInc6 dX1_freeingOf_45 (winc (by omega)) ?_
        refine R_goto dX1_freeingOf_48 ?_
        exact eqI5 (by first | (rw [cntB_f (by first | (simp [hb21]; done) | (simp [hb21, hb39]; done))]; done) | (rw [cntB_t (by simp [hb21, hb39])]; done) | (rw [cntB_t (by simp [hb21, hb39])]; omega)) (ihq (by omega) _ hO3)
      · refine iInc5 dX1_freeingOf_42 (winc (by omega)) ?_
        refine iInc6 dX1_freeingOf_45 (winc (by omega)) ?_
        refine R_goto dX1_freeingOf_48 ?_
        exact eqI5 (by first | (rw [cntB_f (by first | (simp [hb21]; done) | (simp [hb21, hb39]; done))]; done) | (rw [cntB_t (by simp [hb21, hb39])]; done) | (rw [cntB_t (by simp [hb21, hb39])]; omega)) (ihq (by omega) _ hO3)
set_option maxHeartbeats 400000 in
theorem C_X1_bestTry {d : Nat} {g : Gs} {h : Hc} {P : Po} {c t r : Nat} {w : Nat → Int} (hC : Ct g h c t r w) {j n : Nat} (hj : j < 5) (hn : n < 2305843009213693952) (K : ∀ h', Off (scr c r) h h' → P (.inl (some (vI (tryW w j n)))) g h') : Call (d + 5) 0 0 mX1_bestTry [vR c, vI ((j : Nat) : Int), vL (((n : Nat) : Int))] g h P := by
  have hcs := hC.wf.cas
  have hho := hC.wf.hou
  have hjd := hC.wf.jud
  refine Call_of rfl ⟨by decide +kernel, rfl⟩ (Nat.le_of_ble_eq_true rfl) rfl ?_
  have hO0 : Off (scr c r) h h := Off.rf _ _
  refine R_iconst_m1 dX1_bestTry_0 ?_
  refine iS4 dX1_bestTry_1 ?_
  refine lL2 dX1_bestTry_3 ?_
  refine invS1 rfl dX1_bestTry_4 kX1_109 (Nat.le_of_ble_eq_true rfl) (Nat.zero_le _) (Nat.zero_le _) (C_J13_bitCount_95d88 hn (konI ?_))
  have hpc0 : pcN n ≤ 64 := cntB_le (fun i => n.testBit i) 64
  refine iS5 dX1_bestTry_7 ?_
  refine iL5 dX1_bestTry_9 ?_
  
  refine R_iconst_1 dX1_bestTry_11 ?_
  refine addV dX1_bestTry_12 (v := (((pcN n + 1) : Nat) : Int)) (by rw [wid (by omega) (by omega)]; omega) ?_
  refine iS6 dX1_bestTry_13 ?_
  refine R_iconst_0 dX1_bestTry_15 ?_
  refine iS7 dX1_bestTry_16 ?_
  have hpc := cntB_le (fun i => n.testBit i) 64
  have hpc2 : pcN n ≤ 64 := hpc
  refine eqI6 (v := (tryF w j n 0).2) (by show _ = ((pcN n : Nat) : Int) + 1; omega) ?_
  refine loopN ((w 1).toNat) (fun q => ∀ v8 v9 : AV, (pcN n < 2 → q = 0) → ∀ hK1 : Hc, Off (scr c r) h hK1 → Run (d + 5) 0 0 mX1_bestTry 18 [vR c, vI ((j : Nat) : Int), vL (((n : Nat) : Int)), vU, vI ((tryF w j n q).1), vI ((pcN n : Nat) : Int), vI ((tryF w j n q).2), vI ((q : Nat) : Int), v8, v9] [] g hK1 P) (fun q hcnq ihq v8 v9 h2a hK1 hOK1 => ?_) (0) (Nat.zero_le _) vU vU (fun _ => rfl) _ hO0
  have hCK1 := hC.off hOK1
  refine iL7 dX1_bestTry_18 ?_
  refine aL0 dX1_bestTry_20 ?_
  refine R_getR dX1_bestTry_21 fX1_17.r hC.ct rfl ?_
  refine R_getI dX1_bestTry_24 fX1_88.r hC.tg.o ?_
  refine topV (v := w 1) (hCK1.tw.s1) ?_
  have hq2 := hC.wf.cas
  refine R_icmp_ge dX1_bestTry_27 (fun hb27 => ?_) (fun hb27 => ?_)
  · have e9 : q = (w 1).toNat := by omega
    refine iL4 dX1_bestTry_92 ?_
    exact R_iret dX1_bestTry_94 rfl (PeqI (K _ hOK1) (tryW_of h2a (fun q9 => by omega)))
  · refine iL5 dX1_bestTry_30 ?_
    refine R_iconst_2 dX1_bestTry_32 ?_
    refine R_icmp_lt dX1_bestTry_33 (fun hb33 => ?_) (fun hb33 => ?_)
    · refine iL4 dX1_bestTry_92 ?_
      exact R_iret dX1_bestTry_94 rfl (PeqI (K _ hOK1) (tryW_of h2a (fun q9 => by omega)))
    · refine aL0 dX1_bestTry_36 ?_
      refine R_getR dX1_bestTry_37 fX1_17.r hC.ct rfl ?_
      refine R_getR dX1_bestTry_40 fX1_44 hC.tg.o rfl ?_
      refine iL7 dX1_bestTry_43 ?_
      refine ialdN dX1_bestTry_45 hC.tg.a9 rfl (by omega) ?_
      refine topV (v := w (104 + 7 * q)) (hCK1.tw.a9 (by omega)) ?_
      have hq3 := hC.wf.st (c := q) (by omega)
      refine R_if_ne dX1_bestTry_46 (fun hb46 => ?_) (fun hb46 => ?_)
      · refine iInc7 dX1_bestTry_86 (winc (by omega)) ?_
        refine R_goto dX1_bestTry_89 ?_
        exact eqI4 (by rw [tryF_s]; simp only [tryS]; (repeat' split) <;> first | rfl | omega) (eqI6 (by rw [tryF_s]; simp only [tryS]; (repeat' split) <;> first | rfl | omega) (ihq (by omega) _ _ (fun q9 => by omega) _ hOK1))
      · refine aL0 dX1_bestTry_49 ?_
        refine iL1 dX1_bestTry_50 ?_
        refine iL7 dX1_bestTry_51 ?_
        refine lL2 dX1_bestTry_53 ?_
        refine invV3 rfl dX1_bestTry_54 kX1_115 hC.ct (Nat.le_of_ble_eq_true rfl) (Nat.zero_le _) (Nat.zero_le _) (C_X1_freeingOf hCK1 (by omega) (by omega) hn (fun h4 hx4 => konI ?_))
        have hO4 := hOK1.tr hx4
        have hC4 := hC.off hO4
        have htn := cntB_le (fun k => n.testBit k && frH w k j q (w 4)) 61
        have htn2 : tryN w j n q ≤ 61 := htn
        refine iS8 dX1_bestTry_57 ?_
        refine iL8 dX1_bestTry_59 ?_
        refine iL5 dX1_bestTry_61 ?_
        refine iL8 dX1_bestTry_63 ?_
        refine subV dX1_bestTry_65 (wid (by omega) (by omega)) ?_
        refine R_mmax dX1_bestTry_66 kX1_68 lb_max (Nat.le_of_ble_eq_true rfl) ?_
        refine topV (v := tryV w j n q) (rfl) ?_
        refine iS9 dX1_bestTry_69 ?_
        refine iL9 dX1_bestTry_71 ?_
        refine iL6 dX1_bestTry_73 ?_
        refine R_icmp_ge dX1_bestTry_75 (fun hb75 => ?_) (fun hb75 => ?_)
        · refine iInc7 dX1_bestTry_86 (winc (by omega)) ?_
          refine R_goto dX1_bestTry_89 ?_
          exact eqI4 (by rw [tryF_s]; simp only [tryS]; (repeat' split) <;> first | rfl | omega) (eqI6 (by rw [tryF_s]; simp only [tryS]; (repeat' split) <;> first | rfl | omega) (ihq (by omega) _ _ (fun q9 => by omega) _ hO4))
        · refine iL9 dX1_bestTry_78 ?_
          refine iS6 dX1_bestTry_80 ?_
          refine iL7 dX1_bestTry_82 ?_
          refine iS4 dX1_bestTry_84 ?_
          refine iInc7 dX1_bestTry_86 (winc (by omega)) ?_
          refine R_goto dX1_bestTry_89 ?_
          exact eqI4 (by rw [tryF_s]; simp only [tryS]; (repeat' split) <;> first | rfl | omega) (eqI6 (by rw [tryF_s]; simp only [tryS]; (repeat' split) <;> first | rfl | omega) (ihq (by omega) _ _ (fun q9 => by omega) _ hO4))
