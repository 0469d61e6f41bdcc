/-! COPIES: slot by slot, cells of t out of those of u -/
def tLen : List Nat := [6, 5, 5, 5, 5, 8, 8, 8, 8, 8, 8, 8, 60, 12, 3, 360]
/-- the town at t has what that at u had -/
def Cp (h h' : Hc) (t u : Nat) : Prop := (∀ k, k < 6 → h' t k = h u k) ∧ (∀ i, 0 < i → i < 14 → ∀ k, k < tLen.getD i 0 → h' (t + i) k = h (u + i) k) ∧ (∀ k, k = 1 ∨ k = 2 → h' (t + 14) k = h (u + 14) k) ∧ (∀ k, k < 360 → h' (t + 15) k = h (u + 15) k)
theorem Tw.cp {h h' : Hc} {t u : Nat} {w : Nat → Int} (q : Tw h u w) (hf : WF w) (c : Cp h h' t u) : Tw h' t w := by
  have hcs := hf.cas
  have hlg := hf.log
  obtain ⟨c0, c1, c2, c3⟩ := c
  obtain ⟨⟨q0, q1, q2, q3, q4, q5⟩, q6, q7, q8, q9, q10, q11, q12, q13, q14⟩ := q
  have d : ∀ i, 0 < i → i < 14 → ∀ k, k < tLen.getD i 0 → h' (t + i) k = h (u + i) k := c1
  refine ⟨⟨by rw [c0 0 (by omega)]; exact q0, by rw [c0 1 (by omega)]; exact q1, by rw [c0 2 (by omega)]; exact q2, by rw [c0 3 (by omega)]; exact q3, by rw [c0 4 (by omega)]; exact q4, by rw [c0 5 (by omega)]; exact q5⟩, fun j hj => ?_, fun c hc => ?_, fun c hc => ?_, fun c hc hc2 => ?_, fun p hp => ?_, fun k hk => ?_, ?_, ?_, ?_⟩
  · rw [d 1 (by omega) (by omega) j hj, d 2 (by omega) (by omega) j hj, d 3 (by omega) (by omega) j hj, d 4 (by omega) (by omega) j hj]; exact q6 j hj
  · rw [d 5 (by omega) (by omega) c hc, d 6 (by omega) (by omega) c hc, d 7 (by omega) (by omega) c hc, d 9 (by omega) (by omega) c hc]; exact q7 c hc
  · have h8 : c < 8 := by omega
    rw [d 8 (by omega) (by omega) c h8, d 10 (by omega) (by omega) c h8, d 11 (by omega) (by omega) c h8]; exact q8 c hc
  · rw [d 10 (by omega) (by omega) c hc, d 11 (by omega) (by omega) c hc]; exact q9 c hc hc2
  · rw [d 12 (by omega) (by omega) p hp]; exact q10 p hp
  · rw [d 13 (by omega) (by omega) k hk]; exact q11 k hk
  · rw [c2 2 (Or.inr rfl)]; exact q12
  · rw [c2 1 (Or.inl rfl)]; exact q13
  · intro ago i h1 h2
    rw [c2 1 (Or.inl rfl), c3 _ (by omega)]; exact q14 ago i h1 h2
set_option maxHeartbeats 400000 in
theorem C_X4_copyFrom {d : Nat} {g : Gs} {h : Hc} {P : Po} {t u : Nat} (hT : TwG g t) (hU : TwG g u) (hs1 : ¬ u + 14 = t + 14) (hs2 : ¬ u + 14 = t + 15) (hs3 : ¬ u + 15 = t + 14) (hs4 : ¬ u + 15 = t + 15) (K : ∀ h', (∀ a, ¬ a = t + 14 ∧ ¬ a = t + 15 → h' a = h a) → h' (t + 14) 1 = h (u + 14) 1 → h' (t + 14) 2 = h (u + 14) 2 → (∀ k, k < 360 → h' (t + 15) k = h (u + 15) k) → P (.inl none) g h') : Call (d + 0) 0 0 mX4_copyFrom [vR (t + 14), vR (u + 14)] g h P := by
  refine Call_of rfl ⟨by decide +kernel, rfl⟩ (Nat.le_of_ble_eq_true rfl) rfl ?_
  refine aL0 dX4_copyFrom_0 ?_
  refine aL1 dX4_copyFrom_1 ?_
  refine R_getI dX4_copyFrom_2 fX4_15.r hU.a14 ?_
  refine R_putI dX4_copyFrom_5 fX4_15 hT.a14 ?_
  refine storH (fun h1 e1 => ?_)
  have o1 : ∀ a, ¬ a = t + 14 → h1 a = h a := fun a ha => by rw [e1]; exact updH_a ha
  skip
  refine aL0 dX4_copyFrom_8 ?_
  refine aL1 dX4_copyFrom_9 ?_
  refine R_getI dX4_copyFrom_10 fX4_19.r hU.a14 ?_
  refine R_putI dX4_copyFrom_13 fX4_19 hT.a14 ?_
  refine storH (fun h2 e2 => ?_)
  have o2 : ∀ a, ¬ a = t + 14 → h2 a = h1 a := fun a ha => by rw [e2]; exact updH_a ha
  skip
  refine aL1 dX4_copyFrom_16 ?_
  refine R_getR dX4_copyFrom_17 fX4_11.r hU.a14 rfl ?_
  refine R_iconst_0 dX4_copyFrom_20 ?_
  refine aL0 dX4_copyFrom_21 ?_
  refine R_getR dX4_copyFrom_22 fX4_11.r hT.a14 rfl ?_
  refine R_iconst_0 dX4_copyFrom_25 ?_
  refine R_sipush dX4_copyFrom_26 (by decide) ?_
  refine R_acopy dX4_copyFrom_29 kX4_22 lb_cpy hT.a15 hU.a15 (by decide) (Nat.le_of_ble_eq_true rfl) ?_
  refine storH (fun h3 e3 => ?_)
  have o3 : ∀ a, ¬ a = t + 15 → h3 a = h2 a := fun a ha => by rw [e3]; exact setH_a ha
  skip
  exact R_vret dX4_copyFrom_32 rfl (K _ (fun a ha => by rw [o3 a ha.2, o2 a ha.1, o1 a ha.1]) (by rw [o3 _ (by omega), e2, updH_i (by omega), e1, updH_s]) (by rw [o3 _ (by omega), e2, updH_s, o1 _ hs1]) (fun k hk => by rw [e3, setH_s]; show (if (k : Int) < 360 then _ else _) = _; rw [if_pos (by omega), o2 _ hs3, o1 _ hs3]))
set_option maxHeartbeats 4000000 in
theorem C_X10_copyFrom {d : Nat} {g : Gs} {h : Hc} {P : Po} {t u : Nat} (hT : TwG g t) (hU : TwG g u) (hsep : ∀ i j, i < 16 → j < 16 → ¬ u + i = t + j) (K : ∀ h', Off (fun q => t ≤ q ∧ q < t + 16) h h' → Cp h h' t u → P (.inl none) g h') : Call (d + 1) 0 0 mX10_copyFrom [vR t, vR u] g h P := by
  have hsep0 : ¬ u = t := hsep 0 0 (by omega) (by omega)
  have hsep1 : ∀ j, 0 < j → j < 16 → ¬ u = t + j := fun j h0 hj => hsep 0 j (by omega) hj
  have hsep2 : ∀ i, i < 16 → ∀ j, j < 16 → ¬ u + i = t + j := fun i hi j hj => hsep i j hi hj
  refine Call_of rfl ⟨by decide +kernel, rfl⟩ (Nat.le_of_ble_eq_true rfl) rfl ?_
  refine aL0 dX10_copyFrom_0 ?_
  refine aL1 dX10_copyFrom_1 ?_
  refine R_getI dX10_copyFrom_2 fX10_9.r hU.o ?_
  refine R_putI dX10_copyFrom_5 fX10_9 hT.o ?_
  refine storH (fun h1 e1 => ?_)
  have o1 : ∀ a, ¬ a = t → h1 a = h a := fun a ha => by rw [e1]; exact updH_a ha
  have hu1 : ∀ i, i < 16 → h1 (u + i) = h (u + i) := fun i hi => (o1 _ (hsep i 0 hi (by omega))).trans ((fun _ _ => rfl) i hi)
  refine aL0 dX10_copyFrom_8 ?_
  refine aL1 dX10_copyFrom_9 ?_
  refine R_getI dX10_copyFrom_10 fX10_15.r hU.o ?_
  refine R_putI dX10_copyFrom_13 fX10_15 hT.o ?_
  refine storH (fun h2 e2 => ?_)
  have o2 : ∀ a, ¬ a = t → h2 a = h1 a := fun a ha => by rw [e2]; exact updH_a ha
  have hu2 : ∀ i, i < 16 → h2 (u + i) = h (u + i) := fun i hi => (o2 _ (hsep i 0 hi (by omega))).trans (hu1 i hi)
  refine aL0 dX10_copyFrom_16 ?_
  refine aL1 dX10_copyFrom_17 ?_
  refine R_getI dX10_copyFrom_18 fX10_18.r hU.o ?_
  refine R_putI dX10_copyFrom_21 fX10_18 hT.o ?_
  refine storH (fun h3 e3 => ?_)
  have o3 : ∀ a, ¬ a = t → h3 a = h2 a := fun a ha => by rw [e3]; exact updH_a ha
  have hu3 : ∀ i, i < 16 → h3 (u + i) = h (u + i) := fun i hi => (o3 _ (hsep i 0 hi (by omega))).trans (hu2 i hi)
  refine aL0 dX10_copyFrom_24 ?_
  refine aL1 dX10_copyFrom_25 ?_
  refine R_getI dX10_copyFrom_26 fX10_21.r hU.o ?_
  refine R_putI dX10_copyFrom_29 fX10_21 hT.o ?_
  refine storH (fun h4 e4 => ?_)
  have o4 : ∀ a, ¬ a = t → h4 a = h3 a := fun a ha => by rw [e4]; exact updH_a ha
  have hu4 : ∀ i, i < 16 → h4 (u + i) = h (u + i) := fun i hi => (o4 _ (hsep i 0 hi (by omega))).trans (hu3 i hi)
  refine aL0 dX10_copyFrom_32 ?_
  refine aL1 dX10_copyFrom_33 ?_
  refine R_getI dX10_copyFrom_34 fX10_24.r hU.o ?_
  refine R_putI dX10_copyFrom_37 fX10_24 hT.o ?_
  refine storH (fun h5 e5 => ?_)
  have o5 : ∀ a, ¬ a = t → h5 a = h4 a := fun a ha => by rw [e5]; exact updH_a ha
  have hu5 : ∀ i, i < 16 → h5 (u + i) = h (u + i) := fun i hi => (o5 _ (hsep i 0 hi (by omega))).trans (hu4 i hi)
  refine aL0 dX10_copyFrom_40 ?_
  refine aL1 dX10_copyFrom_41 ?_
  refine R_getI dX10_copyFrom_42 fX10_27.r hU.o ?_
  refine R_putI dX10_copyFrom_45 fX10_27 hT.o ?_
  refine storH (fun h6 e6 => ?_)
  have o6 : ∀ a, ¬ a = t → h6 a = h5 a := fun a ha => by rw [e6]; exact updH_a ha
  have hu6 : ∀ i, i < 16 → h6 (u + i) = h (u + i) := fun i hi => (o6 _ (hsep i 0 hi (by omega))).trans (hu5 i hi)
  refine aL1 dX10_copyFrom_48 ?_
  refine R_getR dX10_copyFrom_49 fX10_30.r hU.o rfl ?_
  refine R_iconst_0 dX10_copyFrom_52 ?_
  refine aL0 dX10_copyFrom_53 ?_
  refine R_getR dX10_copyFrom_54 fX10_30.r hT.o rfl ?_
  refine R_iconst_0 dX10_copyFrom_57 ?_
  refine R_iconst_5 dX10_copyFrom_58 ?_
  refine R_acopy dX10_copyFrom_59 kX10_83 lb_cpy hT.a1 hU.a1 (by decide) (Nat.le_of_ble_eq_true rfl) ?_
  refine storH (fun h7 e7 => ?_)
  have o7 : ∀ a, ¬ a = t + 1 → h7 a = h6 a := fun a ha => by rw [e7]; exact setH_a ha
  have hu7 : ∀ i, i < 16 → h7 (u + i) = h (u + i) := fun i hi => (o7 _ (hsep i 1 hi (by omega))).trans (hu6 i hi)
  refine aL1 dX10_copyFrom_62 ?_
  refine R_getR dX10_copyFrom_63 fX10_34.r hU.o rfl ?_
  refine R_iconst_0 dX10_copyFrom_66 ?_
  refine aL0 dX10_copyFrom_67 ?_
  refine R_getR dX10_copyFrom_68 fX10_34.r hT.o rfl ?_
  refine R_iconst_0 dX10_copyFrom_71 ?_
  refine R_iconst_5 dX10_copyFrom_72 ?_
  refine R_acopy dX10_copyFrom_73 kX10_83 lb_cpy hT.a2 hU.a2 (by decide) (Nat.le_of_ble_eq_true rfl) ?_
  refine storH (fun h8 e8 => ?_)
  have o8 : ∀ a, ¬ a = t + 2 → h8 a = h7 a := fun a ha => by rw [e8]; exact setH_a ha
  have hu8 : ∀ i, i < 16 → h8 (u + i) = h (u + i) := fun i hi => (o8 _ (hsep i 2 hi (by omega))).trans (hu7 i hi)
  refine aL1 dX10_copyFrom_76 ?_
  refine R_getR dX10_copyFrom_77 fX10_37.r hU.o rfl ?_
  refine R_iconst_0 dX10_copyFrom_80 ?_
  refine aL0 dX10_copyFrom_81 ?_
  refine R_getR dX10_copyFrom_82 fX10_37.r hT.o rfl ?_
  refine R_iconst_0 dX10_copyFrom_85 ?_
  refine R_iconst_5 dX10_copyFrom_86 ?_
  refine R_acopy dX10_copyFrom_87 kX10_83 lb_cpy hT.a3 hU.a3 (by decide) (Nat.le_of_ble_eq_true rfl) ?_
  refine storH (fun h9 e9 => ?_)
  have o9 : ∀ a, ¬ a = t + 3 → h9 a = h8 a := fun a ha => by rw [e9]; exact setH_a ha
  have hu9 : ∀ i, i < 16 → h9 (u + i) = h (u + i) := fun i hi => (o9 _ (hsep i 3 hi (by omega))).trans (hu8 i hi)
  refine aL1 dX10_copyFrom_90 ?_
  refine R_getR dX10_copyFrom_91 fX10_40.r hU.o rfl ?_
  refine R_iconst_0 dX10_copyFrom_94 ?_
  refine aL0 dX10_copyFrom_95 ?_
  refine R_getR dX10_copyFrom_96 fX10_40.r hT.o rfl ?_
  refine R_iconst_0 dX10_copyFrom_99 ?_
  refine R_iconst_5 dX10_copyFrom_100 ?_
  refine R_acopy dX10_copyFrom_101 kX10_83 lb_cpy hT.a4 hU.a4 (by decide) (Nat.le_of_ble_eq_true rfl) ?_
  refine storH (fun h10 e10 => ?_)
  have o10 : ∀ a, ¬ a = t + 4 → h10 a = h9 a := fun a ha => by rw [e10]; exact setH_a ha
  have hu10 : ∀ i, i < 16 → h10 (u + i) = h (u + i) := fun i hi => (o10 _ (hsep i 4 hi (by omega))).trans (hu9 i hi)
  refine aL1 dX10_copyFrom_104 ?_
  refine R_getR dX10_copyFrom_105 fX10_43.r hU.o rfl ?_
  refine R_iconst_0 dX10_copyFrom_108 ?_
  refine aL0 dX10_copyFrom_109 ?_
  refine R_getR dX10_copyFrom_110 fX10_43.r hT.o rfl ?_
  refine R_iconst_0 dX10_copyFrom_113 ?_
  refine R_bipush dX10_copyFrom_114 (by decide) ?_
  refine R_acopy dX10_copyFrom_116 kX10_83 lb_cpy hT.a5 hU.a5 (by decide) (Nat.le_of_ble_eq_true rfl) ?_
  refine storH (fun h11 e11 => ?_)
  have o11 : ∀ a, ¬ a = t + 5 → h11 a = h10 a := fun a ha => by rw [e11]; exact setH_a ha
  have hu11 : ∀ i, i < 16 → h11 (u + i) = h (u + i) := fun i hi => (o11 _ (hsep i 5 hi (by omega))).trans (hu10 i hi)
  refine aL1 dX10_copyFrom_119 ?_
  refine R_getR dX10_copyFrom_120 fX10_46.r hU.o rfl ?_
  refine R_iconst_0 dX10_copyFrom_123 ?_
  refine aL0 dX10_copyFrom_124 ?_
  refine R_getR dX10_copyFrom_125 fX10_46.r hT.o rfl ?_
  refine R_iconst_0 dX10_copyFrom_128 ?_
  refine R_bipush dX10_copyFrom_129 (by decide) ?_
  refine R_acopy dX10_copyFrom_131 kX10_83 lb_cpy hT.a6 hU.a6 (by decide) (Nat.le_of_ble_eq_true rfl) ?_
  refine storH (fun h12 e12 => ?_)
  have o12 : ∀ a, ¬ a = t + 6 → h12 a = h11 a := fun a ha => by rw [e12]; exact setH_a ha
  have hu12 : ∀ i, i < 16 → h12 (u + i) = h (u + i) := fun i hi => (o12 _ (hsep i 6 hi (by omega))).trans (hu11 i hi)
  refine aL1 dX10_copyFrom_134 ?_
  refine R_getR dX10_copyFrom_135 fX10_49.r hU.o rfl ?_
  refine R_iconst_0 dX10_copyFrom_138 ?_
  refine aL0 dX10_copyFrom_139 ?_
  refine R_getR dX10_copyFrom_140 fX10_49.r hT.o rfl ?_
  refine R_iconst_0 dX10_copyFrom_143 ?_
  refine R_bipush dX10_copyFrom_144 (by decide) ?_
  refine R_acopy dX10_copyFrom_146 kX10_83 lb_cpy hT.a7 hU.a7 (by decide) (Nat.le_of_ble_eq_true rfl) ?_
  refine storH (fun h13 e13 => ?_)
  have o13 : ∀ a, ¬ a = t + 7 → h13 a = h12 a := fun a ha => by rw [e13]; exact setH_a ha
  have hu13 : ∀ i, i < 16 → h13 (u + i) = h (u + i) := fun i hi => (o13 _ (hsep i 7 hi (by omega))).trans (hu12 i hi)
  refine aL1 dX10_copyFrom_149 ?_
  refine R_getR dX10_copyFrom_150 fX10_52.r hU.o rfl ?_
  refine R_iconst_0 dX10_copyFrom_153 ?_
  refine aL0 dX10_copyFrom_154 ?_
  refine R_getR dX10_copyFrom_155 fX10_52.r hT.o rfl ?_
  refine R_iconst_0 dX10_copyFrom_158 ?_
  refine R_bipush dX10_copyFrom_159 (by decide) ?_
  refine R_acopy dX10_copyFrom_161 kX10_83 lb_cpy hT.a8 hU.a8 (by decide) (Nat.le_of_ble_eq_true rfl) ?_
  refine storH (fun h14 e14 => ?_)
  have o14 : ∀ a, ¬ a = t + 8 → h14 a = h13 a := fun a ha => by rw [e14]; exact setH_a ha
  have hu14 : ∀ i, i < 16 → h14 (u + i) = h (u + i) := fun i hi => (o14 _ (hsep i 8 hi (by omega))).trans (hu13 i hi)
  refine aL1 dX10_copyFrom_164 ?_
  refine R_getR dX10_copyFrom_165 fX10_55.r hU.o rfl ?_
  refine R_iconst_0 dX10_copyFrom_168 ?_
  refine aL0 dX10_copyFrom_169 ?_
  refine R_getR dX10_copyFrom_170 fX10_55.r hT.o rfl ?_
  refine R_iconst_0 dX10_copyFrom_173 ?_
  refine R_bipush dX10_copyFrom_174 (by decide) ?_
  refine R_acopy dX10_copyFrom_176 kX10_83 lb_cpy hT.a9 hU.a9 (by decide) (Nat.le_of_ble_eq_true rfl) ?_
  refine storH (fun h15 e15 => ?_)
  have o15 : ∀ a, ¬ a = t + 9 → h15 a = h14 a := fun a ha => by rw [e15]; exact setH_a ha
  have hu15 : ∀ i, i < 16 → h15 (u + i) = h (u + i) := fun i hi => (o15 _ (hsep i 9 hi (by omega))).trans (hu14 i hi)
  refine aL1 dX10_copyFrom_179 ?_
  refine R_getR dX10_copyFrom_180 fX10_58.r hU.o rfl ?_
  refine R_iconst_0 dX10_copyFrom_183 ?_
  refine aL0 dX10_copyFrom_184 ?_
  refine R_getR dX10_copyFrom_185 fX10_58.r hT.o rfl ?_
  refine R_iconst_0 dX10_copyFrom_188 ?_
  refine R_bipush dX10_copyFrom_189 (by decide) ?_
  refine R_acopy dX10_copyFrom_191 kX10_83 lb_cpy hT.a10 hU.a10 (by decide) (Nat.le_of_ble_eq_true rfl) ?_
  refine storH (fun h16 e16 => ?_)
  have o16 : ∀ a, ¬ a = t + 10 → h16 a = h15 a := fun a ha => by rw [e16]; exact setH_a ha
  have hu16 : ∀ i, i < 16 → h16 (u + i) = h (u + i) := fun i hi => (o16 _ (hsep i 10 hi (by omega))).trans (hu15 i hi)
  refine aL1 dX10_copyFrom_194 ?_
  refine R_getR dX10_copyFrom_195 fX10_61.r hU.o rfl ?_
  refine R_iconst_0 dX10_copyFrom_198 ?_
  refine aL0 dX10_copyFrom_199 ?_
  refine R_getR dX10_copyFrom_200 fX10_61.r hT.o rfl ?_
  refine R_iconst_0 dX10_copyFrom_203 ?_
  refine R_bipush dX10_copyFrom_204 (by decide) ?_
  refine R_acopy dX10_copyFrom_206 kX10_83 lb_cpy hT.a11 hU.a11 (by decide) (Nat.le_of_ble_eq_true rfl) ?_
  refine storH (fun h17 e17 => ?_)
  have o17 : ∀ a, ¬ a = t + 11 → h17 a = h16 a := fun a ha => by rw [e17]; exact setH_a ha
  have hu17 : ∀ i, i < 16 → h17 (u + i) = h (u + i) := fun i hi => (o17 _ (hsep i 11 hi (by omega))).trans (hu16 i hi)
  refine aL1 dX10_copyFrom_209 ?_
  refine R_getR dX10_copyFrom_210 fX10_64.r hU.o rfl ?_
  refine R_iconst_0 dX10_copyFrom_213 ?_
  refine aL0 dX10_copyFrom_214 ?_
  refine R_getR dX10_copyFrom_215 fX10_64.r hT.o rfl ?_
  refine R_iconst_0 dX10_copyFrom_218 ?_
  refine R_bipush dX10_copyFrom_219 (by decide) ?_
  refine R_acopy dX10_copyFrom_221 kX10_83 lb_cpy hT.a12 hU.a12 (by decide) (Nat.le_of_ble_eq_true rfl) ?_
  refine storH (fun h18 e18 => ?_)
  have o18 : ∀ a, ¬ a = t + 12 → h18 a = h17 a := fun a ha => by rw [e18]; exact setH_a ha
  have hu18 : ∀ i, i < 16 → h18 (u + i) = h (u + i) := fun i hi => (o18 _ (hsep i 12 hi (by omega))).trans (hu17 i hi)
  refine aL1 dX10_copyFrom_224 ?_
  refine R_getR dX10_copyFrom_225 fX10_67.r hU.o rfl ?_
  refine R_iconst_0 dX10_copyFrom_228 ?_
  refine aL0 dX10_copyFrom_229 ?_
  refine R_getR dX10_copyFrom_230 fX10_67.r hT.o rfl ?_
  refine R_iconst_0 dX10_copyFrom_233 ?_
  refine R_bipush dX10_copyFrom_234 (by decide) ?_
  refine R_acopy dX10_copyFrom_236 kX10_83 lb_cpy hT.a13 hU.a13 (by decide) (Nat.le_of_ble_eq_true rfl) ?_
  refine storH (fun h19 e19 => ?_)
  have o19 : ∀ a, ¬ a = t + 13 → h19 a = h18 a := fun a ha => by rw [e19]; exact setH_a ha
  have hu19 : ∀ i, i < 16 → h19 (u + i) = h (u + i) := fun i hi => (o19 _ (hsep i 13 hi (by omega))).trans (hu18 i hi)
  refine aL0 dX10_copyFrom_239 ?_
  refine R_getR dX10_copyFrom_240 fX10_73.r hT.o rfl ?_
  refine aL1 dX10_copyFrom_243 ?_
  refine R_getR dX10_copyFrom_244 fX10_73.r hU.o rfl ?_
  refine invV1 rfl dX10_copyFrom_247 kX10_89 hT.a14 (Nat.le_of_ble_eq_true rfl) (Nat.zero_le _) (Nat.zero_le _) (C_X4_copyFrom hT hU (hsep 14 14 (by omega) (by omega)) (hsep 14 15 (by omega) (by omega)) (hsep 15 14 (by omega) (by omega)) (hsep 15 15 (by omega) (by omega)) (fun h20 hx20 hy20 hz20 hv20 => konV ?_))
  refine R_vret dX10_copyFrom_250 rfl (K _ (fun a ha => ?_) ⟨fun k hk => ?_, fun i hi0 hi1 k hk => ?_, fun k hk => ?_, fun k hk => ?_⟩)
  · rw [hx20 a ⟨by omega, by omega⟩, o19 a (by omega), o18 a (by omega), o17 a (by omega), o16 a (by omega), o15 a (by omega), o14 a (by omega), o13 a (by omega), o12 a (by omega), o11 a (by omega), o10 a (by omega), o9 a (by omega), o8 a (by omega), o7 a (by omega), o6 a (by omega), o5 a (by omega), o4 a (by omega), o3 a (by omega), o2 a (by omega), o1 a (by omega)]
  · rw [hx20 t ⟨by omega, by omega⟩, o19 t (by omega), o18 t (by omega), o17 t (by omega), o16 t (by omega), o15 t (by omega), o14 t (by omega), o13 t (by omega), o12 t (by omega), o11 t (by omega), o10 t (by omega), o9 t (by omega), o8 t (by omega), o7 t (by omega)]
    match k, hk with
    | 0, _ => rw [e6, updH_i (by omega), e5, updH_i (by omega), e4, updH_i (by omega), e3, updH_i (by omega), e2, updH_i (by omega), e1, updH_s]
    | 1, _ => rw [e6, updH_i (by omega), e5, updH_i (by omega), e4, updH_i (by omega), e3, updH_i (by omega), e2, updH_s, show h1 u = h u from hu1 0 (by omega)]
    | 2, _ => rw [e6, updH_i (by omega), e5, updH_i (by omega), e4, updH_i (by omega), e3, updH_s, show h2 u = h u from hu2 0 (by omega)]
    | 3, _ => rw [e6, updH_i (by omega), e5, updH_i (by omega), e4, updH_s, show h3 u = h u from hu3 0 (by omega)]
    | 4, _ => rw [e6, updH_i (by omega), e5, updH_s, show h4 u = h u from hu4 0 (by omega)]
    | 5, _ => rw [e6, updH_s, show h5 u = h u from hu5 0 (by omega)]
  · match i, hi0, hi1 with
    | 1, _, _ =>
      have hk : k < 5 := hk
      rw [hx20 _ ⟨by omega, by omega⟩, o19 _ (by omega), o18 _ (by omega), o17 _ (by omega), o16 _ (by omega), o15 _ (by omega), o14 _ (by omega), o13 _ (by omega), o12 _ (by omega), o11 _ (by omega), o10 _ (by omega), o9 _ (by omega), o8 _ (by omega), e7, setH_s]
      show (if (k : Int) < 5 then _ else _) = _
      rw [if_pos (by omega), hu6 1 (by omega)]
    | 2, _, _ =>
      have hk : k < 5 := hk
      rw [hx20 _ ⟨by omega, by omega⟩, o19 _ (by omega), o18 _ (by omega), o17 _ (by omega), o16 _ (by omega), o15 _ (by omega), o14 _ (by omega), o13 _ (by omega), o12 _ (by omega), o11 _ (by omega), o10 _ (by omega), o9 _ (by omega), e8, setH_s]
      show (if (k : Int) < 5 then _ else _) = _
      rw [if_pos (by omega), hu7 2 (by omega)]
    | 3, _, _ =>
      have hk : k < 5 := hk
      rw [hx20 _ ⟨by omega, by omega⟩, o19 _ (by omega), o18 _ (by omega), o17 _ (by omega), o16 _ (by omega), o15 _ (by omega), o14 _ (by omega), o13 _ (by omega), o12 _ (by omega), o11 _ (by omega), o10 _ (by omega), e9, setH_s]
      show (if (k : Int) < 5 then _ else _) = _
      rw [if_pos (by omega), hu8 3 (by omega)]
    | 4, _, _ =>
      have hk : k < 5 := hk
      rw [hx20 _ ⟨by omega, by omega⟩, o19 _ (by omega), o18 _ (by omega), o17 _ (by omega), o16 _ (by omega), o15 _ (by omega), o14 _ (by omega), o13 _ (by omega), o12 _ (by omega), o11 _ (by omega), e10, setH_s]
      show (if (k : Int) < 5 then _ else _) = _
      rw [if_pos (by omega), hu9 4 (by omega)]
    | 5, _, _ =>
      have hk : k < 8 := hk
      rw [hx20 _ ⟨by omega, by omega⟩, o19 _ (by omega), o18 _ (by omega), o17 _ (by omega), o16 _ (by omega), o15 _ (by omega), o14 _ (by omega), o13 _ (by omega), o12 _ (by omega), e11, setH_s]
      show (if (k : Int) < 8 then _ else _) = _
      rw [if_pos (by omega), hu10 5 (by omega)]
    | 6, _, _ =>
      have hk : k < 8 := hk
      rw [hx20 _ ⟨by omega, by omega⟩, o19 _ (by omega), o18 _ (by omega), o17 _ (by omega), o16 _ (by omega), o15 _ (by omega), o14 _ (by omega), o13 _ (by omega), e12, setH_s]
      show (if (k : Int) < 8 then _ else _) = _
      rw [if_pos (by omega), hu11 6 (by omega)]
    | 7, _, _ =>
      have hk : k < 8 := hk
      rw [hx20 _ ⟨by omega, by omega⟩, o19 _ (by omega), o18 _ (by omega), o17 _ (by omega), o16 _ (by omega), o15 _ (by omega), o14 _ (by omega), e13, setH_s]
      show (if (k : Int) < 8 then _ else _) = _
      rw [if_pos (by omega), hu12 7 (by omega)]
    | 8, _, _ =>
      have hk : k < 8 := hk
      rw [hx20 _ ⟨by omega, by omega⟩, o19 _ (by omega), o18 _ (by omega), o17 _ (by omega), o16 _ (by omega), o15 _ (by omega), e14, setH_s]
      show (if (k : Int) < 8 then _ else _) = _
      rw [if_pos (by omega), hu13 8 (by omega)]
    | 9, _, _ =>
      have hk : k < 8 := hk
      rw [hx20 _ ⟨by omega, by omega⟩, o19 _ (by omega), o18 _ (by omega), o17 _ (by omega), o16 _ (by omega), e15, setH_s]
      show (if (k : Int) < 8 then _ else _) = _
      rw [if_pos (by omega), hu14 9 (by omega)]
    | 10, _, _ =>
      have hk : k < 8 := hk
      rw [hx20 _ ⟨by omega, by omega⟩, o19 _ (by omega), o18 _ (by omega), o17 _ (by omega), e16, setH_s]
      show (if (k : Int) < 8 then _ else _) = _
      rw [if_pos (by omega), hu15 10 (by omega)]
    | 11, _, _ =>
      have hk : k < 8 := hk
      rw [hx20 _ ⟨by omega, by omega⟩, o19 _ (by omega), o18 _ (by omega), e17, setH_s]
      show (if (k : Int) < 8 then _ else _) = _
      rw [if_pos (by omega), hu16 11 (by omega)]
    | 12, _, _ =>
      have hk : k < 60 := hk
      rw [hx20 _ ⟨by omega, by omega⟩, o19 _ (by omega), e18, setH_s]
      show (if (k : Int) < 60 then _ else _) = _
      rw [if_pos (by omega), hu17 12 (by omega)]
    | 13, _, _ =>
      have hk : k < 12 := hk
      rw [hx20 _ ⟨by omega, by omega⟩, e19, setH_s]
      show (if (k : Int) < 12 then _ else _) = _
      rw [if_pos (by omega), hu18 13 (by omega)]
  · rcases hk with rfl | rfl
    · rw [hy20, hu19 14 (by omega)]
    · rw [hz20, hu19 14 (by omega)]
  · rw [hv20 k hk, hu19 15 (by omega)]
def lLen : List Nat := [0, 12, 12, 12, 400, 0]
set_option maxHeartbeats 1000000 in
theorem C_X2_copyFrom {d : Nat} {g : Gs} {h : Hc} {P : Po} {r s : Nat} (hG : LwG g r) (hS : LwG g s) (hsep : ∀ i j, i < 6 → j < 6 → ¬ s + i = r + j) (K : ∀ h', Off (fun q => r ≤ q ∧ q < r + 5) h h' → h' r 0 = h s 0 → (∀ i, 0 < i → i < 5 → ∀ k, k < lLen.getD i 0 → h' (r + i) k = h (s + i) k) → P (.inl none) g h') : Call (d + 0) 0 0 mX2_copyFrom [vR r, vR s] g h P := by
  refine Call_of rfl ⟨by decide +kernel, rfl⟩ (Nat.le_of_ble_eq_true rfl) rfl ?_
  refine aL0 dX2_copyFrom_0 ?_
  refine aL1 dX2_copyFrom_1 ?_
  refine R_getI dX2_copyFrom_2 fX2_11.r hS.o ?_
  refine R_putI dX2_copyFrom_5 fX2_11 hG.o ?_
  refine storH (fun h1 e1 => ?_)
  have o1 : ∀ a, ¬ a = r → h1 a = h a := fun a ha => by rw [e1]; exact updH_a ha
  skip
  refine aL0 dX2_copyFrom_8 ?_
  refine aL1 dX2_copyFrom_9 ?_
  refine R_getI dX2_copyFrom_10 fX2_17.r hS.o ?_
  refine R_putI dX2_copyFrom_13 fX2_17 hG.o ?_
  refine storH (fun h2 e2 => ?_)
  have o2 : ∀ a, ¬ a = r → h2 a = h1 a := fun a ha => by rw [e2]; exact updH_a ha
  skip
  refine aL1 dX2_copyFrom_16 ?_
  refine R_getR dX2_copyFrom_17 fX2_20.r hS.o rfl ?_
  refine R_iconst_0 dX2_copyFrom_20 ?_
  refine aL0 dX2_copyFrom_21 ?_
  refine R_getR dX2_copyFrom_22 fX2_20.r hG.o rfl ?_
  refine R_iconst_0 dX2_copyFrom_25 ?_
  refine R_bipush dX2_copyFrom_26 (by decide) ?_
  refine R_acopy dX2_copyFrom_28 kX2_36 lb_cpy hG.a1 hS.a1 (by decide) (Nat.le_of_ble_eq_true rfl) ?_
  refine storH (fun h3 e3 => ?_)
  have o3 : ∀ a, ¬ a = r + 1 → h3 a = h2 a := fun a ha => by rw [e3]; exact setH_a ha
  skip
  refine aL1 dX2_copyFrom_31 ?_
  refine R_getR dX2_copyFrom_32 fX2_24.r hS.o rfl ?_
  refine R_iconst_0 dX2_copyFrom_35 ?_
  refine aL0 dX2_copyFrom_36 ?_
  refine R_getR dX2_copyFrom_37 fX2_24.r hG.o rfl ?_
  refine R_iconst_0 dX2_copyFrom_40 ?_
  refine R_bipush dX2_copyFrom_41 (by decide) ?_
  refine R_acopy dX2_copyFrom_43 kX2_36 lb_cpy hG.a2 hS.a2 (by decide) (Nat.le_of_ble_eq_true rfl) ?_
  refine storH (fun h4 e4 => ?_)
  have o4 : ∀ a, ¬ a = r + 2 → h4 a = h3 a := fun a ha => by rw [e4]; exact setH_a ha
  skip
  refine aL1 dX2_copyFrom_46 ?_
  refine R_getR dX2_copyFrom_47 fX2_27.r hS.o rfl ?_
  refine R_iconst_0 dX2_copyFrom_50 ?_
  refine aL0 dX2_copyFrom_51 ?_
  refine R_getR dX2_copyFrom_52 fX2_27.r hG.o rfl ?_
  refine R_iconst_0 dX2_copyFrom_55 ?_
  refine R_bipush dX2_copyFrom_56 (by decide) ?_
  refine R_acopy dX2_copyFrom_58 kX2_36 lb_cpy hG.a3 hS.a3 (by decide) (Nat.le_of_ble_eq_true rfl) ?_
  refine storH (fun h5 e5 => ?_)
  have o5 : ∀ a, ¬ a = r + 3 → h5 a = h4 a := fun a ha => by rw [e5]; exact setH_a ha
  skip
  refine aL1 dX2_copyFrom_61 ?_
  refine R_getR dX2_copyFrom_62 fX2_30.r hS.o rfl ?_
  refine R_iconst_0 dX2_copyFrom_65 ?_
  refine aL0 dX2_copyFrom_66 ?_
  refine R_getR dX2_copyFrom_67 fX2_30.r hG.o rfl ?_
  refine R_iconst_0 dX2_copyFrom_70 ?_
  refine R_sipush dX2_copyFrom_71 (by decide) ?_
  refine R_acopy dX2_copyFrom_74 kX2_36 lb_cpy hG.a4 hS.a4 (by decide) (Nat.le_of_ble_eq_true rfl) ?_
  refine storH (fun h6 e6 => ?_)
  have o6 : ∀ a, ¬ a = r + 4 → h6 a = h5 a := fun a ha => by rw [e6]; exact setH_a ha
  skip
  refine R_vret dX2_copyFrom_77 rfl (K _ (fun a ha => by rw [o6 a (by omega), o5 a (by omega), o4 a (by omega), o3 a (by omega), o2 a (by omega), o1 a (by omega)]) (by rw [o6 r (by omega), o5 r (by omega), o4 r (by omega), o3 r (by omega), e2, updH_i (by omega), e1, updH_s]) (fun i hi0 hi1 k hk => ?_))
  match i, hi0, hi1 with
  | 1, _, _ =>
    have hk : k < 12 := hk
    rw [o6 _ (by omega), o5 _ (by omega), o4 _ (by omega), e3, setH_s]
    show (if (k : Int) < 12 then _ else _) = _
    rw [if_pos (by omega), o2 _ (hsep 1 0 (by omega) (by omega)), o1 _ (hsep 1 0 (by omega) (by omega))]
  | 2, _, _ =>
    have hk : k < 12 := hk
    rw [o6 _ (by omega), o5 _ (by omega), e4, setH_s]
    show (if (k : Int) < 12 then _ else _) = _
    rw [if_pos (by omega), o3 _ (hsep 2 1 (by omega) (by omega)), o2 _ (hsep 2 0 (by omega) (by omega)), o1 _ (hsep 2 0 (by omega) (by omega))]
  | 3, _, _ =>
    have hk : k < 12 := hk
    rw [o6 _ (by omega), e5, setH_s]
    show (if (k : Int) < 12 then _ else _) = _
    rw [if_pos (by omega), o4 _ (hsep 3 2 (by omega) (by omega)), o3 _ (hsep 3 1 (by omega) (by omega)), o2 _ (hsep 3 0 (by omega) (by omega)), o1 _ (hsep 3 0 (by omega) (by omega))]
  | 4, _, _ =>
    have hk : k < 400 := hk
    rw [e6, setH_s]
    show (if (k : Int) < 400 then _ else _) = _
    rw [if_pos (by omega), o5 _ (hsep 4 3 (by omega) (by omega)), o4 _ (hsep 4 2 (by omega) (by omega)), o3 _ (hsep 4 1 (by omega) (by omega)), o2 _ (hsep 4 0 (by omega) (by omega)), o1 _ (hsep 4 0 (by omega) (by omega))]
theorem Lw.cp {h h' : Hc} {r s : Nat} {w : Nat → Int} (q : Lw h s w) (hl : LawOK w) (c0 : h' r 0 = h s 0) (c1 : ∀ i, 0 < i → i < 5 → ∀ k, k < lLen.getD i 0 → h' (r + i) k = h (s + i) k) : Lw h' r w := by
  refine ⟨fun h3 => by rw [c0]; exact q.1 h3, fun h3 => ⟨by rw [c0]; exact (q.2 h3).1, fun n hn => ?_⟩⟩
  obtain ⟨x1, -, -, x4⟩ := hl h3
  obtain ⟨-, -, y3, -, -⟩ := x4 n hn
  obtain ⟨z1, z2, z3, z4⟩ := (q.2 h3).2 n hn
  refine ⟨by rw [c1 1 (by omega) (by omega) n (by show n < 12; omega)]; exact z1, by rw [c1 2 (by omega) (by omega) n (by show n < 12; omega)]; exact z2, by rw [c1 3 (by omega) (by omega) n (by show n < 12; omega)]; exact z3, fun i hi => by rw [c1 4 (by omega) (by omega) i (by show i < 400; omega)]; exact z4 i hi⟩
