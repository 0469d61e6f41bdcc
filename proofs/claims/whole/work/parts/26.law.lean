/-! THE CLASS'S LAW beside the row's -/
def cmap (c n : Int) : Int := if c = 10 then n else if c < 10 then 1000 + c else if c = 11 then 2043 else if c = 12 then 2060 else if c = 13 then 2062 else if c = 14 then 1023 else if c = 15 then 1022 else 1021
def Lw (h : Hc) (r : Nat) (w : Nat → Int) : Prop := (w 3 ≠ 1 → h r 0 = -1) ∧ (w 3 = 1 → h r 0 = w 516 ∧ ∀ n : Nat, (n : Int) < w 516 → h (r + 1) n = 1017 + w (517 + 4 * n) ∧ h (r + 2) n = w (518 + 4 * n) ∧ h (r + 3) n = w (520 + 4 * n) ∧ ∀ i : Nat, (i : Int) < w (520 + 4 * n) → h (r + 4) i = cmap (w (565 + 2 * i)) (w (566 + 2 * i)))
theorem Lw.off {S : Nat → Prop} {h h' : Hc} {r : Nat} {w : Nat → Int} (q : Lw h r w) (o : Off S h h') (hs : ∀ i, i < 5 → ¬ S (r + i)) : Lw h' r w := by
  have e : ∀ i, i < 5 → h' (r + i) = h (r + i) := fun i hi => o _ (hs i hi)
  unfold Lw
  rw [show h' r = h r from e 0 (by omega), e 1 (by omega), e 2 (by omega), e 3 (by omega), e 4 (by omega)]
  exact q
/-- a stack in an array: the top first -/
def StkR (f : Nat → Int) : List Int → Prop
  | [] => True
  | v :: r => f r.length = v ∧ StkR f r
theorem StkR_upd {f : Nat → Int} {i : Nat} {v : Int} : ∀ {s : List Int}, StkR f s → s.length ≤ i → StkR (updW f i v) s
  | [], _, _ => trivial
  | a :: r, h, hi => ⟨by rw [updW_n (by simp at hi; omega)]; exact h.1, StkR_upd h.2 (by simp at hi; omega)⟩
theorem StkR_push {f : Nat → Int} {v : Int} {s : List Int} (h : StkR f s) : StkR (updW f s.length v) (v :: s) := ⟨updW_s _ _ _, StkR_upd h (Nat.le_refl _)⟩
theorem StkR_H {h : Hc} {a i : Nat} {v : Int} {s : List Int} (q : StkR (updW (h a) i v) s) : StkR (updH h a i v a) s := by rw [updH_r]; exact q
theorem and01 {a b : Int} (ha : a = 0 ∨ a = 1) (hb : b = 0 ∨ b = 1) : andI a b = if a = 1 ∧ b = 1 then 1 else 0 := by
  rcases ha with rfl | rfl <;> rcases hb with rfl | rfl <;> decide +kernel
theorem or01 {a b : Int} (ha : a = 0 ∨ a = 1) (hb : b = 0 ∨ b = 1) : orI a b = if a = 1 ∨ b = 1 then 1 else 0 := by
  rcases ha with rfl | rfl <;> rcases hb with rfl | rfl <;> decide +kernel
set_option maxHeartbeats 1000000 in
theorem C_X2_holds {d : Nat} {g : Gs} {h : Hc} {P : Po} {r fa a b : Nat} {F w : Nat → Int} {fin : List Int} (hG : LwG g r) (hfa : g.1[fa]? = some (13, 10, [])) (hne : ¬ fa = r + 5) (hF : ∀ k, k < 10 → h fa k = F k) (hcd : ∀ i, i < b → h (r + 4) i = cmap (w (565 + 2 * i)) (w (566 + 2 * i)) ∧ (0 ≤ w (565 + 2 * i) ∧ w (565 + 2 * i) ≤ 16) ∧ (w (565 + 2 * i) = 10 → 0 ≤ w (566 + 2 * i) ∧ w (566 + 2 * i) ≤ 999)) (hab : a ≤ b) (hb : b ≤ 400) (hr : runL F w a (b - a) [] = some fin) (hfin : fin = [] ∨ fin = [0] ∨ fin = [1]) (K : ∀ h', Off (fun q => q = r + 5) h h' → P (.inl (some (vI (bI (decide (fin ≠ [0])))))) g h') : Call (d + 0) 0 0 mX2_holds [vR r, vI (a : Int), vI (b : Int), vR fa] g h P := by
  refine Call_of rfl ⟨by decide +kernel, rfl⟩ (Nat.le_of_ble_eq_true rfl) rfl ?_
  refine R_iconst_0 dX2_holds_0 ?_
  refine iS4 dX2_holds_1 ?_
  refine iL1 dX2_holds_3 ?_
  refine iS5 dX2_holds_4 ?_
  refine loopN b (fun i => ∀ (hK : Hc) (s : List Int) (v6 v7 v8 v9 : AV), Off (fun q => q = r + 5) h hK → StkR (hK (r + 5)) s → s.length ≤ 32 → a ≤ i → runL F w i (b - i) s = some fin → Run (d + 0) 0 0 mX2_holds 6 [vR r, vI ((a : Nat) : Int), vI ((b : Nat) : Int), vR fa, vI ((s.length : Nat) : Int), vI ((i : Nat) : Int), v6, v7, v8, v9] [] g hK P) (fun i hib ih hK s v6 v7 v8 v9 hO hS hsl hai hrun => ?_) a hab h [] vU vU vU vU (Off.rf _ _) trivial (Nat.zero_le _) (Nat.le_refl _) hr
  refine iL5 dX2_holds_6 ?_
  refine iL2 dX2_holds_8 ?_
  refine R_icmp_ge dX2_holds_9 (fun hb9 => ?_) (fun hb9 => ?_)
  · have hib2 : i = b := by omega
    subst hib2
    rw [Nat.sub_self] at hrun
    have hsf : s = fin := Option.some.inj hrun
    refine iL4 dX2_holds_282 ?_
    refine R_if_eq dX2_holds_284 (fun hb284 => ?_) (fun hb284 => ?_)
    · have hs0 : fin = [] := by rw [← hsf]; exact List.length_eq_zero_iff.mp (by omega)
      refine R_iconst_1 dX2_holds_296 ?_
      refine R_goto dX2_holds_297 ?_
      exact R_zret dX2_holds_301 rfl (by decide) (PeqI (K _ hO) (by rw [bI_t]; rw [hs0]; decide))
    · refine aL0 dX2_holds_287 ?_
      refine R_getR dX2_holds_288 fX2_33.r hG.o rfl ?_
      refine R_iconst_0 dX2_holds_291 ?_
      refine ialdN (k := 0) dX2_holds_292 hG.a5 rfl (by decide) ?_
      rcases hfin with q | q | q
      · exfalso; rw [hsf, q] at hb284; exact hb284 rfl
      · rw [hsf, q] at hS
        refine topV (v := 0) hS.1 ?_
        refine R_if_eq dX2_holds_293 (fun hb293 => ?_) (fun hb293 => ?_)
        · refine R_iconst_0 dX2_holds_300 ?_
          exact R_zret dX2_holds_301 rfl (by decide) (PeqI (K _ hO) (by rw [bI_f]; rw [q]; decide))
        · exact absurd rfl hb293
      · rw [hsf, q] at hS
        refine topV (v := 1) hS.1 ?_
        refine R_if_eq dX2_holds_293 (fun hb293 => ?_) (fun hb293 => ?_)
        · exact absurd hb293 (by decide)
        · refine R_iconst_1 dX2_holds_296 ?_
          refine R_goto dX2_holds_297 ?_
          exact R_zret dX2_holds_301 rfl (by decide) (PeqI (K _ hO) (by rw [bI_t]; rw [q]; decide))
  · rw [show b - i = (b - (i + 1)) + 1 by omega] at hrun
    obtain ⟨s2, e1, e2⟩ := runL_s hrun
    obtain ⟨hc1, hc2, hc3⟩ := hcd i (by omega)
    refine aL0 dX2_holds_12 ?_
    refine R_getR dX2_holds_13 fX2_30.r hG.o rfl ?_
    refine iL5 dX2_holds_16 ?_
    refine ialdN dX2_holds_18 hG.a4 rfl (by omega) ?_
    refine topV (v := cmap (w (565 + 2 * i)) (w (566 + 2 * i))) (by rw [hO _ (by omega)]; exact hc1) ?_
    rcases stepL_c e1 with ⟨c1, c2, c3⟩ | ⟨c1, b1, t1, c2, c3, c4⟩ | ⟨a1, b1, t1, c2, c3⟩
    · by_cases c4 : w (565 + 2 * i) = 10
      · have c5 := hc3 c4
        rw [if_pos c4] at c3
        refine topV (v := w (566 + 2 * i)) (by simp [cmap, c4]) ?_
        refine iS6 dX2_holds_19 ?_
        refine iL6 dX2_holds_21 ?_
        refine R_sipush dX2_holds_23 (by decide) ?_
        refine subV dX2_holds_26 (wid (by omega) (by omega)) ?_
        refine iS7 dX2_holds_27 ?_
        refine iL7 dX2_holds_29 ?_
        refine R_bipush dX2_holds_31 (by decide) ?_
        refine R_icmp_ge dX2_holds_33 (fun hb33 => ?_) (fun hb33 => ?_)
        · exfalso; omega
        · refine iL4 dX2_holds_36 ?_
          refine R_bipush dX2_holds_38 (by decide) ?_
          refine R_icmp_ge dX2_holds_40 (fun hb40 => ?_) (fun hb40 => ?_)
          · exfalso; omega
          · refine aL0 dX2_holds_43 ?_
            refine R_getR dX2_holds_44 fX2_33.r hG.o rfl ?_
            refine iL4 dX2_holds_47 ?_
            refine iL7 dX2_holds_49 ?_
            refine R_if_ge dX2_holds_51 (fun hb51 => ?_) (fun hb51 => ?_)
            · exfalso; omega
            · refine iL6 dX2_holds_54 ?_
              refine R_goto dX2_holds_56 ?_
              refine iastN dX2_holds_63 hG.a5 rfl (by omega) ?_
              refine iInc4 dX2_holds_64 (winc (by omega)) ?_
              refine R_goto dX2_holds_67 ?_
              refine iInc5 dX2_holds_276 (winc (by omega)) ?_
              refine R_goto dX2_holds_279 ?_
              refine eqI4 (v := ((s2.length : Nat) : Int)) (by have q9 := congrArg List.length c3; simp only [List.length_cons] at q9; omega) ?_
              exact ih (by omega) _ s2 _ _ _ _ (hO.upd rfl) (StkR_H (by rw [c3]; exact StkR_push hS)) (by rw [c3]; simp; omega) (by omega) e2
      · rw [if_neg c4] at c3
        refine topV (v := 1000 + w (565 + 2 * i)) (by simp [cmap, c4]; omega) ?_
        refine iS6 dX2_holds_19 ?_
        refine iL6 dX2_holds_21 ?_
        refine R_sipush dX2_holds_23 (by decide) ?_
        refine subV dX2_holds_26 (wid (by omega) (by omega)) ?_
        refine iS7 dX2_holds_27 ?_
        refine iL7 dX2_holds_29 ?_
        refine R_bipush dX2_holds_31 (by decide) ?_
        refine R_icmp_ge dX2_holds_33 (fun hb33 => ?_) (fun hb33 => ?_)
        · exfalso; omega
        · refine iL4 dX2_holds_36 ?_
          refine R_bipush dX2_holds_38 (by decide) ?_
          refine R_icmp_ge dX2_holds_40 (fun hb40 => ?_) (fun hb40 => ?_)
          · exfalso; omega
          · refine aL0 dX2_holds_43 ?_
            refine R_getR dX2_holds_44 fX2_33.r hG.o rfl ?_
            refine iL4 dX2_holds_47 ?_
            refine iL7 dX2_holds_49 ?_
            refine R_if_ge dX2_holds_51 (fun hb51 => ?_) (fun hb51 => ?_)
            · refine aL3 dX2_holds_59 ?_
              refine iL7 dX2_holds_60 ?_
              refine ialdN (k := ((1000 + w (565 + 2 * i)) - 1000).toNat) dX2_holds_62 hfa (by omega) (by omega) ?_
              refine topV (v := F (w (565 + 2 * i)).toNat) (by rw [hO _ hne, show (1000 + w (565 + 2 * i) - 1000).toNat = (w (565 + 2 * i)).toNat by omega]; exact hF _ (by omega)) ?_
              refine iastN dX2_holds_63 hG.a5 rfl (by omega) ?_
              refine iInc4 dX2_holds_64 (winc (by omega)) ?_
              refine R_goto dX2_holds_67 ?_
              refine iInc5 dX2_holds_276 (winc (by omega)) ?_
              refine R_goto dX2_holds_279 ?_
              refine eqI4 (v := ((s2.length : Nat) : Int)) (by have q9 := congrArg List.length c3; simp only [List.length_cons] at q9; omega) ?_
              exact ih (by omega) _ s2 _ _ _ _ (hO.upd rfl) (StkR_H (by rw [c3]; exact StkR_push hS)) (by rw [c3]; simp; omega) (by omega) e2
            · exfalso; omega
    · have hlen : s.length = t1.length + 1 := by rw [c2]; rfl
      rw [c2] at hS
      refine topV (v := 1023) (by simp [cmap, c1]) ?_
      refine iS6 dX2_holds_19 ?_
      refine iL6 dX2_holds_21 ?_
      refine R_sipush dX2_holds_23 (by decide) ?_
      refine subV dX2_holds_26 (wid (by omega) (by omega)) ?_
      refine iS7 dX2_holds_27 ?_
      refine iL7 dX2_holds_29 ?_
      refine R_bipush dX2_holds_31 (by decide) ?_
      refine R_icmp_ge dX2_holds_33 (fun hb33 => ?_) (fun hb33 => ?_)
      · refine iL6 dX2_holds_70 ?_
        refine R_sipush dX2_holds_72 (by decide) ?_
        refine R_icmp_ne dX2_holds_75 (fun hb75 => ?_) (fun hb75 => ?_)
        · exfalso; omega
        · refine iL4 dX2_holds_78 ?_
          refine R_iconst_1 dX2_holds_80 ?_
          refine R_icmp_lt dX2_holds_81 (fun hb81 => ?_) (fun hb81 => ?_)
          · exfalso; omega
          · refine aL0 dX2_holds_84 ?_
            refine R_getR dX2_holds_85 fX2_33.r hG.o rfl ?_
            refine iL4 dX2_holds_88 ?_
            refine R_iconst_1 dX2_holds_90 ?_
            refine subV dX2_holds_91 (wid (by omega) (by omega)) ?_
            refine topV (v := ((t1.length : Nat) : Int)) (by omega) ?_
            refine R_iconst_1 dX2_holds_92 ?_
            refine aL0 dX2_holds_93 ?_
            refine R_getR dX2_holds_94 fX2_33.r hG.o rfl ?_
            refine iL4 dX2_holds_97 ?_
            refine R_iconst_1 dX2_holds_99 ?_
            refine subV dX2_holds_100 (wid (by omega) (by omega)) ?_
            refine topV (v := ((t1.length : Nat) : Int)) (by omega) ?_
            refine ialdN dX2_holds_101 hG.a5 rfl (by omega) ?_
            refine topV (v := b1) (hS.1) ?_
            refine subV dX2_holds_102 (wid (by omega) (by omega)) ?_
            refine iastN dX2_holds_103 hG.a5 rfl (by omega) ?_
            refine R_goto dX2_holds_104 ?_
            refine iInc5 dX2_holds_276 (winc (by omega)) ?_
            refine R_goto dX2_holds_279 ?_
            refine eqI4 (v := ((s2.length : Nat) : Int)) (by have q9 := congrArg List.length c4; simp only [List.length_cons] at q9; omega) ?_
            exact ih (by omega) _ s2 _ _ _ _ (hO.upd rfl) (StkR_H (by rw [c4]; exact StkR_push hS.2)) (by rw [c4]; simp; omega) (by omega) e2
      · exfalso; omega
    · have hlen : s.length = t1.length + 2 := by rw [c2]; rfl
      rw [c2] at hS
      rcases c3 with ⟨c3, c5, c6⟩ | ⟨c3, c6⟩ | ⟨c3, c6⟩ | ⟨c3, c5, c6⟩ | ⟨c3, c5, c6⟩
      · refine topV (v := 2043) (by simp [cmap, c3]) ?_
        refine iS6 dX2_holds_19 ?_
        refine iL6 dX2_holds_21 ?_
        refine R_sipush dX2_holds_23 (by decide) ?_
        refine subV dX2_holds_26 (wid (by omega) (by omega)) ?_
        refine iS7 dX2_holds_27 ?_
        refine iL7 dX2_holds_29 ?_
        refine R_bipush dX2_holds_31 (by decide) ?_
        refine R_icmp_ge dX2_holds_33 (fun hb33 => ?_) (fun hb33 => ?_)
        · refine iL6 dX2_holds_70 ?_
          refine R_sipush dX2_holds_72 (by decide) ?_
          refine R_icmp_ne dX2_holds_75 (fun hb75 => ?_) (fun hb75 => ?_)
          · refine iL4 dX2_holds_107 ?_
            refine R_iconst_2 dX2_holds_109 ?_
            refine R_icmp_lt dX2_holds_110 (fun hb110 => ?_) (fun hb110 => ?_)
            · exfalso; omega
            · refine iInc4 dX2_holds_113 (wid (by omega) (by omega)) ?_
              refine eqI4 (v := (((t1.length + 1) : Nat) : Int)) (by omega) ?_
              refine aL0 dX2_holds_116 ?_
              refine R_getR dX2_holds_117 fX2_33.r hG.o rfl ?_
              refine iL4 dX2_holds_120 ?_
              refine R_iconst_1 dX2_holds_122 ?_
              refine subV dX2_holds_123 (wid (by omega) (by omega)) ?_
              refine topV (v := ((t1.length : Nat) : Int)) (by omega) ?_
              refine ialdN dX2_holds_124 hG.a5 rfl (by omega) ?_
              refine topV (v := a1) (hS.2.1) ?_
              refine iS8 dX2_holds_125 ?_
              refine aL0 dX2_holds_127 ?_
              refine R_getR dX2_holds_128 fX2_33.r hG.o rfl ?_
              refine iL4 dX2_holds_131 ?_
              refine ialdN dX2_holds_133 hG.a5 rfl (by omega) ?_
              refine topV (v := b1) (hS.1) ?_
              refine iS9 dX2_holds_134 ?_
              refine iL6 dX2_holds_136 ?_
              refine R_lsw (tt := 180) dX2_holds_138 (by decide) (by decide) ?_
              refine aL0 dX2_holds_180 ?_
              refine R_getR dX2_holds_181 fX2_33.r hG.o rfl ?_
              refine iL4 dX2_holds_184 ?_
              refine R_iconst_1 dX2_holds_186 ?_
              refine subV dX2_holds_187 (wid (by omega) (by omega)) ?_
              refine topV (v := ((t1.length : Nat) : Int)) (by omega) ?_
              refine iL8 dX2_holds_188 ?_
              refine iL9 dX2_holds_190 ?_
              refine addV dX2_holds_192 (wid (by omega) (by omega)) ?_
              refine iastN dX2_holds_193 hG.a5 rfl (by omega) ?_
              refine R_goto dX2_holds_194 ?_
              refine iInc5 dX2_holds_276 (winc (by omega)) ?_
              refine R_goto dX2_holds_279 ?_
              refine eqI4 (v := ((s2.length : Nat) : Int)) (by have q9 := congrArg List.length c6; simp only [List.length_cons] at q9; omega) ?_
              exact ih (by omega) _ s2 _ _ _ _ (hO.upd rfl) (StkR_H (by rw [c6]; exact StkR_push hS.2.2)) (by rw [c6]; simp; omega) (by omega) e2
          · exact absurd hb75 (by decide)
        · exfalso; omega
      · refine topV (v := 2060) (by simp [cmap, c3]) ?_
        refine iS6 dX2_holds_19 ?_
        refine iL6 dX2_holds_21 ?_
        refine R_sipush dX2_holds_23 (by decide) ?_
        refine subV dX2_holds_26 (wid (by omega) (by omega)) ?_
        refine iS7 dX2_holds_27 ?_
        refine iL7 dX2_holds_29 ?_
        refine R_bipush dX2_holds_31 (by decide) ?_
        refine R_icmp_ge dX2_holds_33 (fun hb33 => ?_) (fun hb33 => ?_)
        · refine iL6 dX2_holds_70 ?_
          refine R_sipush dX2_holds_72 (by decide) ?_
          refine R_icmp_ne dX2_holds_75 (fun hb75 => ?_) (fun hb75 => ?_)
          · refine iL4 dX2_holds_107 ?_
            refine R_iconst_2 dX2_holds_109 ?_
            refine R_icmp_lt dX2_holds_110 (fun hb110 => ?_) (fun hb110 => ?_)
            · exfalso; omega
            · refine iInc4 dX2_holds_113 (wid (by omega) (by omega)) ?_
              refine eqI4 (v := (((t1.length + 1) : Nat) : Int)) (by omega) ?_
              refine aL0 dX2_holds_116 ?_
              refine R_getR dX2_holds_117 fX2_33.r hG.o rfl ?_
              refine iL4 dX2_holds_120 ?_
              refine R_iconst_1 dX2_holds_122 ?_
              refine subV dX2_holds_123 (wid (by omega) (by omega)) ?_
              refine topV (v := ((t1.length : Nat) : Int)) (by omega) ?_
              refine ialdN dX2_holds_124 hG.a5 rfl (by omega) ?_
              refine topV (v := a1) (hS.2.1) ?_
              refine iS8 dX2_holds_125 ?_
              refine aL0 dX2_holds_127 ?_
              refine R_getR dX2_holds_128 fX2_33.r hG.o rfl ?_
              refine iL4 dX2_holds_131 ?_
              refine ialdN dX2_holds_133 hG.a5 rfl (by omega) ?_
              refine topV (v := b1) (hS.1) ?_
              refine iS9 dX2_holds_134 ?_
              refine iL6 dX2_holds_136 ?_
              refine R_lsw (tt := 197) dX2_holds_138 (by decide) (by decide) ?_
              refine aL0 dX2_holds_197 ?_
              refine R_getR dX2_holds_198 fX2_33.r hG.o rfl ?_
              refine iL4 dX2_holds_201 ?_
              refine R_iconst_1 dX2_holds_203 ?_
              refine subV dX2_holds_204 (wid (by omega) (by omega)) ?_
              refine topV (v := ((t1.length : Nat) : Int)) (by omega) ?_
              suffices J1 : Run (d + 0) 0 0 mX2_holds 217 [vR r, vI ((a : Nat) : Int), vI ((b : Nat) : Int), vR fa, vI (((t1.length + 1) : Nat) : Int), vI ((i : Nat) : Int), vI 2060, vI (2060 - 1000), vI a1, vI b1] [vI ((if a1 < b1 then 1 else 0)), vI ((t1.length : Nat) : Int), vR (r + 5)] g hK P by
                refine iL8 dX2_holds_205 ?_
                refine iL9 dX2_holds_207 ?_
                refine R_icmp_ge dX2_holds_209 (fun hb209 => ?_) (fun hb209 => ?_)
                · refine R_iconst_0 dX2_holds_216 ?_
                  exact topV (v := (if a1 < b1 then 1 else 0)) (by first | (rw [if_pos (by omega)]) | (rw [if_neg (by omega)])) J1
                · refine R_iconst_1 dX2_holds_212 ?_
                  refine R_goto dX2_holds_213 ?_
                  exact topV (v := (if a1 < b1 then 1 else 0)) (by first | (rw [if_pos (by omega)]) | (rw [if_neg (by omega)])) J1
              refine iastN dX2_holds_217 hG.a5 rfl (by omega) ?_
              refine R_goto dX2_holds_218 ?_
              refine iInc5 dX2_holds_276 (winc (by omega)) ?_
              refine R_goto dX2_holds_279 ?_
              refine eqI4 (v := ((s2.length : Nat) : Int)) (by have q9 := congrArg List.length c6; simp only [List.length_cons] at q9; omega) ?_
              exact ih (by omega) _ s2 _ _ _ _ (hO.upd rfl) (StkR_H (by rw [c6]; exact StkR_push hS.2.2)) (by rw [c6]; simp; omega) (by omega) e2
          · exact absurd hb75 (by decide)
        · exfalso; omega
      · refine topV (v := 2062) (by simp [cmap, c3]) ?_
        refine iS6 dX2_holds_19 ?_
        refine iL6 dX2_holds_21 ?_
        refine R_sipush dX2_holds_23 (by decide) ?_
        refine subV dX2_holds_26 (wid (by omega) (by omega)) ?_
        refine iS7 dX2_holds_27 ?_
        refine iL7 dX2_holds_29 ?_
        refine R_bipush dX2_holds_31 (by decide) ?_
        refine R_icmp_ge dX2_holds_33 (fun hb33 => ?_) (fun hb33 => ?_)
        · refine iL6 dX2_holds_70 ?_
          refine R_sipush dX2_holds_72 (by decide) ?_
          refine R_icmp_ne dX2_holds_75 (fun hb75 => ?_) (fun hb75 => ?_)
          · refine iL4 dX2_holds_107 ?_
            refine R_iconst_2 dX2_holds_109 ?_
            refine R_icmp_lt dX2_holds_110 (fun hb110 => ?_) (fun hb110 => ?_)
            · exfalso; omega
            · refine iInc4 dX2_holds_113 (wid (by omega) (by omega)) ?_
              refine eqI4 (v := (((t1.length + 1) : Nat) : Int)) (by omega) ?_
              refine aL0 dX2_holds_116 ?_
              refine R_getR dX2_holds_117 fX2_33.r hG.o rfl ?_
              refine iL4 dX2_holds_120 ?_
              refine R_iconst_1 dX2_holds_122 ?_
              refine subV dX2_holds_123 (wid (by omega) (by omega)) ?_
              refine topV (v := ((t1.length : Nat) : Int)) (by omega) ?_
              refine ialdN dX2_holds_124 hG.a5 rfl (by omega) ?_
              refine topV (v := a1) (hS.2.1) ?_
              refine iS8 dX2_holds_125 ?_
              refine aL0 dX2_holds_127 ?_
              refine R_getR dX2_holds_128 fX2_33.r hG.o rfl ?_
              refine iL4 dX2_holds_131 ?_
              refine ialdN dX2_holds_133 hG.a5 rfl (by omega) ?_
              refine topV (v := b1) (hS.1) ?_
              refine iS9 dX2_holds_134 ?_
              refine iL6 dX2_holds_136 ?_
              refine R_lsw (tt := 221) dX2_holds_138 (by decide) (by decide) ?_
              refine aL0 dX2_holds_221 ?_
              refine R_getR dX2_holds_222 fX2_33.r hG.o rfl ?_
              refine iL4 dX2_holds_225 ?_
              refine R_iconst_1 dX2_holds_227 ?_
              refine subV dX2_holds_228 (wid (by omega) (by omega)) ?_
              refine topV (v := ((t1.length : Nat) : Int)) (by omega) ?_
              suffices J2 : Run (d + 0) 0 0 mX2_holds 241 [vR r, vI ((a : Nat) : Int), vI ((b : Nat) : Int), vR fa, vI (((t1.length + 1) : Nat) : Int), vI ((i : Nat) : Int), vI 2062, vI (2062 - 1000), vI a1, vI b1] [vI ((if b1 < a1 then 1 else 0)), vI ((t1.length : Nat) : Int), vR (r + 5)] g hK P by
                refine iL8 dX2_holds_229 ?_
                refine iL9 dX2_holds_231 ?_
                refine R_icmp_le dX2_holds_233 (fun hb233 => ?_) (fun hb233 => ?_)
                · refine R_iconst_0 dX2_holds_240 ?_
                  exact topV (v := (if b1 < a1 then 1 else 0)) (by first | (rw [if_pos (by omega)]) | (rw [if_neg (by omega)])) J2
                · refine R_iconst_1 dX2_holds_236 ?_
                  refine R_goto dX2_holds_237 ?_
                  exact topV (v := (if b1 < a1 then 1 else 0)) (by first | (rw [if_pos (by omega)]) | (rw [if_neg (by omega)])) J2
              refine iastN dX2_holds_241 hG.a5 rfl (by omega) ?_
              refine R_goto dX2_holds_242 ?_
              refine iInc5 dX2_holds_276 (winc (by omega)) ?_
              refine R_goto dX2_holds_279 ?_
              refine eqI4 (v := ((s2.length : Nat) : Int)) (by have q9 := congrArg List.length c6; simp only [List.length_cons] at q9; omega) ?_
              exact ih (by omega) _ s2 _ _ _ _ (hO.upd rfl) (StkR_H (by rw [c6]; exact StkR_push hS.2.2)) (by rw [c6]; simp; omega) (by omega) e2
          · exact absurd hb75 (by decide)
        · exfalso; omega
      · refine topV (v := 1022) (by simp [cmap, c3]) ?_
        refine iS6 dX2_holds_19 ?_
        refine iL6 dX2_holds_21 ?_
        refine R_sipush dX2_holds_23 (by decide) ?_
        refine subV dX2_holds_26 (wid (by omega) (by omega)) ?_
        refine iS7 dX2_holds_27 ?_
        refine iL7 dX2_holds_29 ?_
        refine R_bipush dX2_holds_31 (by decide) ?_
        refine R_icmp_ge dX2_holds_33 (fun hb33 => ?_) (fun hb33 => ?_)
        · refine iL6 dX2_holds_70 ?_
          refine R_sipush dX2_holds_72 (by decide) ?_
          refine R_icmp_ne dX2_holds_75 (fun hb75 => ?_) (fun hb75 => ?_)
          · refine iL4 dX2_holds_107 ?_
            refine R_iconst_2 dX2_holds_109 ?_
            refine R_icmp_lt dX2_holds_110 (fun hb110 => ?_) (fun hb110 => ?_)
            · exfalso; omega
            · refine iInc4 dX2_holds_113 (wid (by omega) (by omega)) ?_
              refine eqI4 (v := (((t1.length + 1) : Nat) : Int)) (by omega) ?_
              refine aL0 dX2_holds_116 ?_
              refine R_getR dX2_holds_117 fX2_33.r hG.o rfl ?_
              refine iL4 dX2_holds_120 ?_
              refine R_iconst_1 dX2_holds_122 ?_
              refine subV dX2_holds_123 (wid (by omega) (by omega)) ?_
              refine topV (v := ((t1.length : Nat) : Int)) (by omega) ?_
              refine ialdN dX2_holds_124 hG.a5 rfl (by omega) ?_
              refine topV (v := a1) (hS.2.1) ?_
              refine iS8 dX2_holds_125 ?_
              refine aL0 dX2_holds_127 ?_
              refine R_getR dX2_holds_128 fX2_33.r hG.o rfl ?_
              refine iL4 dX2_holds_131 ?_
              refine ialdN dX2_holds_133 hG.a5 rfl (by omega) ?_
              refine topV (v := b1) (hS.1) ?_
              refine iS9 dX2_holds_134 ?_
              refine iL6 dX2_holds_136 ?_
              refine R_lsw (tt := 245) dX2_holds_138 (by decide) (by decide) ?_
              refine aL0 dX2_holds_245 ?_
              refine R_getR dX2_holds_246 fX2_33.r hG.o rfl ?_
              refine iL4 dX2_holds_249 ?_
              refine R_iconst_1 dX2_holds_251 ?_
              refine subV dX2_holds_252 (wid (by omega) (by omega)) ?_
              refine topV (v := ((t1.length : Nat) : Int)) (by omega) ?_
              refine iL8 dX2_holds_253 ?_
              refine iL9 dX2_holds_255 ?_
              refine R_iand dX2_holds_257 ?_
              refine topV (v := (if a1 = 1 ∧ b1 = 1 then 1 else 0)) (and01 c5.1 c5.2) ?_
              refine iastN dX2_holds_258 hG.a5 rfl (by omega) ?_
              refine R_goto dX2_holds_259 ?_
              refine iInc5 dX2_holds_276 (winc (by omega)) ?_
              refine R_goto dX2_holds_279 ?_
              refine eqI4 (v := ((s2.length : Nat) : Int)) (by have q9 := congrArg List.length c6; simp only [List.length_cons] at q9; omega) ?_
              exact ih (by omega) _ s2 _ _ _ _ (hO.upd rfl) (StkR_H (by rw [c6]; exact StkR_push hS.2.2)) (by rw [c6]; simp; omega) (by omega) e2
          · exact absurd hb75 (by decide)
        · exfalso; omega
      · refine topV (v := 1021) (by simp [cmap, c3]) ?_
        refine iS6 dX2_holds_19 ?_
        refine iL6 dX2_holds_21 ?_
        refine R_sipush dX2_holds_23 (by decide) ?_
        refine subV dX2_holds_26 (wid (by omega) (by omega)) ?_
        refine iS7 dX2_holds_27 ?_
        refine iL7 dX2_holds_29 ?_
        refine R_bipush dX2_holds_31 (by decide) ?_
        refine R_icmp_ge dX2_holds_33 (fun hb33 => ?_) (fun hb33 => ?_)
        · refine iL6 dX2_holds_70 ?_
          refine R_sipush dX2_holds_72 (by decide) ?_
          refine R_icmp_ne dX2_holds_75 (fun hb75 => ?_) (fun hb75 => ?_)
          · refine iL4 dX2_holds_107 ?_
            refine R_iconst_2 dX2_holds_109 ?_
            refine R_icmp_lt dX2_holds_110 (fun hb110 => ?_) (fun hb110 => ?_)
            · exfalso; omega
            · refine iInc4 dX2_holds_113 (wid (by omega) (by omega)) ?_
              refine eqI4 (v := (((t1.length + 1) : Nat) : Int)) (by omega) ?_
              refine aL0 dX2_holds_116 ?_
              refine R_getR dX2_holds_117 fX2_33.r hG.o rfl ?_
              refine iL4 dX2_holds_120 ?_
              refine R_iconst_1 dX2_holds_122 ?_
              refine subV dX2_holds_123 (wid (by omega) (by omega)) ?_
              refine topV (v := ((t1.length : Nat) : Int)) (by omega) ?_
              refine ialdN dX2_holds_124 hG.a5 rfl (by omega) ?_
              refine topV (v := a1) (hS.2.1) ?_
              refine iS8 dX2_holds_125 ?_
              refine aL0 dX2_holds_127 ?_
              refine R_getR dX2_holds_128 fX2_33.r hG.o rfl ?_
              refine iL4 dX2_holds_131 ?_
              refine ialdN dX2_holds_133 hG.a5 rfl (by omega) ?_
              refine topV (v := b1) (hS.1) ?_
              refine iS9 dX2_holds_134 ?_
              refine iL6 dX2_holds_136 ?_
              refine R_lsw (tt := 262) dX2_holds_138 (by decide) (by decide) ?_
              refine aL0 dX2_holds_262 ?_
              refine R_getR dX2_holds_263 fX2_33.r hG.o rfl ?_
              refine iL4 dX2_holds_266 ?_
              refine R_iconst_1 dX2_holds_268 ?_
              refine subV dX2_holds_269 (wid (by omega) (by omega)) ?_
              refine topV (v := ((t1.length : Nat) : Int)) (by omega) ?_
              refine iL8 dX2_holds_270 ?_
              refine iL9 dX2_holds_272 ?_
              refine R_ior dX2_holds_274 ?_
              refine topV (v := (if a1 = 1 ∨ b1 = 1 then 1 else 0)) (or01 c5.1 c5.2) ?_
              refine iastN dX2_holds_275 hG.a5 rfl (by omega) ?_
              refine iInc5 dX2_holds_276 (winc (by omega)) ?_
              refine R_goto dX2_holds_279 ?_
              refine eqI4 (v := ((s2.length : Nat) : Int)) (by have q9 := congrArg List.length c6; simp only [List.length_cons] at q9; omega) ?_
              exact ih (by omega) _ s2 _ _ _ _ (hO.upd rfl) (StkR_H (by rw [c6]; exact StkR_push hS.2.2)) (by rw [c6]; simp; omega) (by omega) e2
          · exact absurd hb75 (by decide)
        · exfalso; omega
def frm (w : Nat → Int) : Nat → Int
  | 0 => 0
  | n + 1 => w (520 + 4 * n)
theorem frm_eq {w : Nat → Int} (hl : LawOK w) (h3 : w 3 = 1) : ∀ {n : Nat}, (n : Int) < w 516 → w (519 + 4 * n) = frm w n
  | 0, h => (hl h3).2.1 (by omega)
  | n + 1, h => (hl h3).2.2.1 n h
theorem hold_of {F w : Nat → Int} {n : Nat} {fin : List Int} (h : runL F w (w (519 + 4 * n)).toNat ((w (520 + 4 * n)).toNat - (w (519 + 4 * n)).toNat) [] = some fin) : hold F w n = decide (fin ≠ [0]) := by
  unfold hold
  rw [h]
  simp
set_option maxHeartbeats 1000000 in
theorem C_X2_sumOf {d : Nat} {g : Gs} {h : Hc} {P : Po} {r fa : Nat} {F w : Nat → Int} (hG : LwG g r) (hfa : g.1[fa]? = some (13, 10, [])) (hne : ¬ fa = r + 5) (hF : ∀ k, k < 10 → h fa k = F k) (hok : okF F) (hl : LawOK w) (hw : Lw h r w) {vb : Int} (K : ∀ h', Off (fun q => q = r + 5) h h' → P (.inl (some (vI (sumW F w vb)))) g h') : Call (d + 1) 0 0 mX2_sumOf [vR r, vI (1017 + vb), vR fa] g h P := by
  refine Call_of rfl ⟨by decide +kernel, rfl⟩ (Nat.le_of_ble_eq_true rfl) rfl ?_
  by_cases h3 : w 3 = 1
  · obtain ⟨hl0, hlz⟩ := hw.2 h3
    obtain ⟨hl1, -, -, hl2⟩ := hl h3
    refine R_iconst_0 dX2_sumOf_0 ?_
    refine iS3 dX2_sumOf_1 ?_
    refine R_iconst_0 dX2_sumOf_2 ?_
    refine iS4 dX2_sumOf_3 ?_
    refine R_iconst_0 dX2_sumOf_5 ?_
    refine iS5 dX2_sumOf_6 ?_
    refine loopN ((w 516).toNat) (fun n => ∀ hK : Hc, Off (fun q => q = r + 5) h hK → Run (d + 1) 0 0 mX2_sumOf 8 [vR r, vI (1017 + vb), vR fa, vI (sumB (fun n => w (518 + 4 * n)) (sumP F w vb) n), vI (frm w n), vI ((n : Nat) : Int)] [] g hK P) (fun n hcnn ihn hK hO => ?_) (0) (Nat.zero_le _) h (Off.rf _ _)
    refine iL5 dX2_sumOf_8 ?_
    refine aL0 dX2_sumOf_10 ?_
    refine R_getI dX2_sumOf_11 fX2_11.r hG.o ?_
    refine topV (v := w 516) (by rw [hO _ (by omega), hl0]) ?_
    refine R_icmp_ge dX2_sumOf_14 (fun hb14 => ?_) (fun hb14 => ?_)
    · have e9 : n = (w 516).toNat := by omega
      subst e9
      refine iL3 dX2_sumOf_70 ?_
      exact R_iret dX2_sumOf_71 rfl (by have := K _ hO; unfold sumW at this; rw [if_pos h3] at this; exact this)
    · obtain ⟨hl3, hl4, hl7, hl5, hl6⟩ := hl2 n (by omega)
      have hfe := frm_eq hl h3 (n := n) (by omega)
      have hsb := sumB_rng (f := fun n => w (518 + 4 * n)) (p := sumP F w vb) (m := 99) (by omega) (n := n) (fun k hk => (hl2 k (by omega)).1)
      refine aL0 dX2_sumOf_17 ?_
      refine R_getR dX2_sumOf_18 fX2_20.r hG.o rfl ?_
      refine iL5 dX2_sumOf_21 ?_
      refine ialdN dX2_sumOf_23 hG.a1 rfl (by omega) ?_
      refine topV (v := 1017 + w (517 + 4 * n)) (by rw [hO _ (by omega)]; exact (hlz n (by omega)).1) ?_
      refine iL1 dX2_sumOf_24 ?_
      refine R_icmp_ne dX2_sumOf_25 (fun hb25 => ?_) (fun hb25 => ?_)
      · refine aL0 dX2_sumOf_55 ?_
        refine R_getR dX2_sumOf_56 fX2_27.r hG.o rfl ?_
        refine iL5 dX2_sumOf_59 ?_
        refine ialdN dX2_sumOf_61 hG.a3 rfl (by omega) ?_
        refine topV (v := w (520 + 4 * n)) (by rw [hO _ (by omega)]; exact (hlz n (by omega)).2.2.1) ?_
        refine iS4 dX2_sumOf_62 ?_
        refine iInc5 dX2_sumOf_64 (winc (by omega)) ?_
        refine R_goto dX2_sumOf_67 ?_
        exact eqI3 (by first | (rw [sumB_f (by simp [sumP]; omega)]; done) | (rw [sumB_f (by simp [sumP, hb42])]; done) | (rw [sumB_t (by simp [sumP, hb42]; omega)]; done)) (eqI4 (rfl) (ihn (by omega) _ hO))
      · refine aL0 dX2_sumOf_28 ?_
        refine iL4 dX2_sumOf_29 ?_
        refine topV (v := (((w (519 + 4 * n)).toNat : Nat) : Int)) (by omega) ?_
        refine aL0 dX2_sumOf_31 ?_
        refine R_getR dX2_sumOf_32 fX2_27.r hG.o rfl ?_
        refine iL5 dX2_sumOf_35 ?_
        refine ialdN dX2_sumOf_37 hG.a3 rfl (by omega) ?_
        refine topV (v := w (520 + 4 * n)) (by rw [hO _ (by omega)]; exact (hlz n (by omega)).2.2.1) ?_
        refine topV (v := (((w (520 + 4 * n)).toNat : Nat) : Int)) (by omega) ?_
        refine aL2 dX2_sumOf_38 ?_
        obtain ⟨fin, hrn, hfn⟩ := hl5 F hok
        refine invV3 rfl dX2_sumOf_39 kX2_42 hG.o (Nat.le_of_ble_eq_true rfl) (Nat.zero_le _) (Nat.zero_le _) (C_X2_holds hG hfa hne (F := F) (w := w) (fin := fin) (fun k hk => by rw [hO _ hne]; exact hF k hk) (fun i hi => ⟨by rw [hO _ (by omega)]; exact (hlz n (by omega)).2.2.2 i (by omega), hl6 i (by omega)⟩) (by omega) (by omega) hrn hfn (fun h1 hO1 => konI ?_))
        refine topV (v := bI (hold F w n)) (by rw [hold_of hrn]) ?_
        replace hO := hO.tr hO1
        refine R_ifB_eq dX2_sumOf_42 (fun hb42 => ?_) (fun hb42 => ?_)
        · refine aL0 dX2_sumOf_55 ?_
          refine R_getR dX2_sumOf_56 fX2_27.r hG.o rfl ?_
          refine iL5 dX2_sumOf_59 ?_
          refine ialdN dX2_sumOf_61 hG.a3 rfl (by omega) ?_
          refine topV (v := w (520 + 4 * n)) (by rw [hO _ (by omega)]; exact (hlz n (by omega)).2.2.1) ?_
          refine iS4 dX2_sumOf_62 ?_
          refine iInc5 dX2_sumOf_64 (winc (by omega)) ?_
          refine R_goto dX2_sumOf_67 ?_
          exact eqI3 (by first | (rw [sumB_f (by simp [sumP]; omega)]; done) | (rw [sumB_f (by simp [sumP, hb42])]; done) | (rw [sumB_t (by simp [sumP, hb42]; omega)]; done)) (eqI4 (rfl) (ihn (by omega) _ hO))
        · refine iL3 dX2_sumOf_45 ?_
          refine aL0 dX2_sumOf_46 ?_
          refine R_getR dX2_sumOf_47 fX2_24.r hG.o rfl ?_
          refine iL5 dX2_sumOf_50 ?_
          refine ialdN dX2_sumOf_52 hG.a2 rfl (by omega) ?_
          refine topV (v := w (518 + 4 * n)) (by rw [hO _ (by omega)]; exact (hlz n (by omega)).2.1) ?_
          refine addV dX2_sumOf_53 (wid (by omega) (by omega)) ?_
          refine iS3 dX2_sumOf_54 ?_
          refine aL0 dX2_sumOf_55 ?_
          refine R_getR dX2_sumOf_56 fX2_27.r hG.o rfl ?_
          refine iL5 dX2_sumOf_59 ?_
          refine ialdN dX2_sumOf_61 hG.a3 rfl (by omega) ?_
          refine topV (v := w (520 + 4 * n)) (by rw [hO _ (by omega)]; exact (hlz n (by omega)).2.2.1) ?_
          refine iS4 dX2_sumOf_62 ?_
          refine iInc5 dX2_sumOf_64 (winc (by omega)) ?_
          refine R_goto dX2_sumOf_67 ?_
          exact eqI3 (by first | (rw [sumB_f (by simp [sumP]; omega)]; done) | (rw [sumB_f (by simp [sumP, hb42])]; done) | (rw [sumB_t (by simp [sumP, hb42]; omega)]; done)) (eqI4 (rfl) (ihn (by omega) _ hO))
  · have hl0 := hw.1 h3
    refine R_iconst_0 dX2_sumOf_0 ?_
    refine iS3 dX2_sumOf_1 ?_
    refine R_iconst_0 dX2_sumOf_2 ?_
    refine iS4 dX2_sumOf_3 ?_
    refine R_iconst_0 dX2_sumOf_5 ?_
    refine iS5 dX2_sumOf_6 ?_
    refine iL5 dX2_sumOf_8 ?_
    refine aL0 dX2_sumOf_10 ?_
    refine R_getI dX2_sumOf_11 fX2_11.r hG.o ?_
    refine topV (v := -1) (hl0) ?_
    refine R_icmp_ge dX2_sumOf_14 (fun hb14 => ?_) (fun hb14 => ?_)
    · refine iL3 dX2_sumOf_70 ?_
      exact R_iret dX2_sumOf_71 rfl (by have := K _ (Off.rf _ _); unfold sumW at this; rw [if_neg h3] at this; exact this)
    · exfalso; omega
