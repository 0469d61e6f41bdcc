/-! THE LAW FROM ITS ENTRY -/
theorem law_step {g : Gs} {h : Hc} {P : Po} {kc ks i : Nat} {a5 a6 : AV} {q : Int} (G : G9 g) (X9 : IX h) (hi : i + 6 ≤ g.2.2.1) (hl : g.2.2.1 ≤ 3072) (hz : ∀ i, in32 (g.2.2.2 i)) (k4 : 4 ≤ kc) (s24 : 24 ≤ ks) (LK : ∀ h' b5 b6, IX h' → Run 45 (kc - 4) (ks - 24) mL_law_ 2859 [vX 0, vR 0, vR 281, vR 300, vI (i : Int), b5, b6] [] g h' P) (hq : 0 ≤ q ∧ q ≤ 63) : Run 45 kc ks mL_law_ 40 [vX 0, vR 0, vR 281, vR 300, vI (i : Int), a5, a6] [vI q] g h P := by
  rcases (show q = 0 ∨ q = 1 ∨ q = 2 ∨ q = 3 ∨ q = 4 ∨ q = 5 ∨ q = 6 ∨ q = 7 ∨ q = 8 ∨ q = 9 ∨ q = 10 ∨ q = 11 ∨ q = 12 ∨ q = 13 ∨ q = 14 ∨ q = 15 ∨ q = 16 ∨ q = 17 ∨ q = 18 ∨ q = 19 ∨ q = 20 ∨ q = 21 ∨ q = 22 ∨ q = 23 ∨ q = 24 ∨ q = 25 ∨ q = 26 ∨ q = 27 ∨ q = 28 ∨ q = 29 ∨ q = 30 ∨ q = 31 ∨ q = 32 ∨ q = 33 ∨ q = 34 ∨ q = 35 ∨ q = 36 ∨ q = 37 ∨ q = 38 ∨ q = 39 ∨ q = 40 ∨ q = 41 ∨ q = 42 ∨ q = 43 ∨ q = 44 ∨ q = 45 ∨ q = 46 ∨ q = 47 ∨ q = 48 ∨ q = 49 ∨ q = 50 ∨ q = 51 ∨ 52 ≤ q by omega) with rfl | rfl | rfl | rfl | rfl | rfl | rfl | rfl | rfl | rfl | rfl | rfl | rfl | rfl | rfl | rfl | rfl | rfl | rfl | rfl | rfl | rfl | rfl | rfl | rfl | rfl | rfl | rfl | rfl | rfl | rfl | rfl | rfl | rfl | rfl | rfl | rfl | rfl | rfl | rfl | rfl | rfl | rfl | rfl | rfl | rfl | rfl | rfl | rfl | rfl | rfl | rfl | hq2
  · exact R_tsw dL_law__40 (tt := 264) (by decide +kernel) (by decide +kernel) (LC_0 G X9 hi hl hz k4 s24 LK)
  · exact R_tsw dL_law__40 (tt := 337) (by decide +kernel) (by decide +kernel) (LC_1 G X9 hi hl hz k4 s24 LK)
  · exact R_tsw dL_law__40 (tt := 362) (by decide +kernel) (by decide +kernel) (LC_2 G X9 hi hl hz k4 s24 LK)
  · exact R_tsw dL_law__40 (tt := 406) (by decide +kernel) (by decide +kernel) (LC_3 G X9 hi hl hz k4 s24 LK)
  · exact R_tsw dL_law__40 (tt := 450) (by decide +kernel) (by decide +kernel) (LC_4 G X9 hi hl hz k4 s24 LK)
  · exact R_tsw dL_law__40 (tt := 463) (by decide +kernel) (by decide +kernel) (LC_5 G X9 hi hl hz k4 s24 LK)
  · exact R_tsw dL_law__40 (tt := 531) (by decide +kernel) (by decide +kernel) (LC_6 G X9 hi hl hz k4 s24 LK)
  · exact R_tsw dL_law__40 (tt := 599) (by decide +kernel) (by decide +kernel) (LC_7 G X9 hi hl hz k4 s24 LK)
  · exact R_tsw dL_law__40 (tt := 667) (by decide +kernel) (by decide +kernel) (LC_8 G X9 hi hl hz k4 s24 LK)
  · exact R_tsw dL_law__40 (tt := 723) (by decide +kernel) (by decide +kernel) (LC_9 G X9 hi hl hz k4 s24 LK)
  · exact R_tsw dL_law__40 (tt := 803) (by decide +kernel) (by decide +kernel) (LC_10 G X9 hi hl hz k4 s24 LK)
  · exact R_tsw dL_law__40 (tt := 883) (by decide +kernel) (by decide +kernel) (LC_11 G X9 hi hl hz k4 s24 LK)
  · exact R_tsw dL_law__40 (tt := 939) (by decide +kernel) (by decide +kernel) (LC_12 G X9 hi hl hz k4 s24 LK)
  · exact R_tsw dL_law__40 (tt := 1019) (by decide +kernel) (by decide +kernel) (LC_13 G X9 hi hl hz k4 s24 LK)
  · exact R_tsw dL_law__40 (tt := 1087) (by decide +kernel) (by decide +kernel) (LC_14 G X9 hi hl hz k4 s24 LK)
  · exact R_tsw dL_law__40 (tt := 1143) (by decide +kernel) (by decide +kernel) (LC_15 G X9 hi hl hz k4 s24 LK)
  · exact R_tsw dL_law__40 (tt := 1211) (by decide +kernel) (by decide +kernel) (LC_16 G X9 hi hl hz k4 s24 LK)
  · exact R_tsw dL_law__40 (tt := 1279) (by decide +kernel) (by decide +kernel) (LC_17 G X9 hi hl hz k4 s24 LK)
  · exact R_tsw dL_law__40 (tt := 1335) (by decide +kernel) (by decide +kernel) (LC_18 G X9 hi hl hz k4 s24 LK)
  · exact R_tsw dL_law__40 (tt := 1403) (by decide +kernel) (by decide +kernel) (LC_19 G X9 hi hl hz k4 s24 LK)
  · exact R_tsw dL_law__40 (tt := 1471) (by decide +kernel) (by decide +kernel) (LC_20 G X9 hi hl hz k4 s24 LK)
  · exact R_tsw dL_law__40 (tt := 1534) (by decide +kernel) (by decide +kernel) (LC_21 G X9 hi hl hz k4 s24 LK)
  · exact R_tsw dL_law__40 (tt := 1575) (by decide +kernel) (by decide +kernel) (LC_22 G X9 hi hl hz k4 s24 LK)
  · exact R_tsw dL_law__40 (tt := 1588) (by decide +kernel) (by decide +kernel) (LC_23 G X9 hi hl hz k4 s24 LK)
  · exact R_tsw dL_law__40 (tt := 1644) (by decide +kernel) (by decide +kernel) (LC_24 G X9 hi hl hz k4 s24 LK)
  · exact R_tsw dL_law__40 (tt := 1657) (by decide +kernel) (by decide +kernel) (LC_25 G X9 hi hl hz k4 s24 LK)
  · exact R_tsw dL_law__40 (tt := 1670) (by decide +kernel) (by decide +kernel) (LC_26 G X9 hi hl hz k4 s24 LK)
  · exact R_tsw dL_law__40 (tt := 1683) (by decide +kernel) (by decide +kernel) (LC_27 G X9 hi hl hz k4 s24 LK)
  · exact R_tsw dL_law__40 (tt := 1767) (by decide +kernel) (by decide +kernel) (LC_28 G X9 hi hl hz k4 s24 LK)
  · exact R_tsw dL_law__40 (tt := 1823) (by decide +kernel) (by decide +kernel) (LC_29 G X9 hi hl hz k4 s24 LK)
  · exact R_tsw dL_law__40 (tt := 1891) (by decide +kernel) (by decide +kernel) (LC_30 G X9 hi hl hz k4 s24 LK)
  · exact R_tsw dL_law__40 (tt := 1959) (by decide +kernel) (by decide +kernel) (LC_31 G X9 hi hl hz k4 s24 LK)
  · exact R_tsw dL_law__40 (tt := 2027) (by decide +kernel) (by decide +kernel) (LC_32 G X9 hi hl hz k4 s24 LK)
  · exact R_tsw dL_law__40 (tt := 2040) (by decide +kernel) (by decide +kernel) (LC_33 G X9 hi hl hz k4 s24 LK)
  · exact R_tsw dL_law__40 (tt := 2096) (by decide +kernel) (by decide +kernel) (LC_34 G X9 hi hl hz k4 s24 LK)
  · exact R_tsw dL_law__40 (tt := 2109) (by decide +kernel) (by decide +kernel) (LC_35 G X9 hi hl hz k4 s24 LK)
  · exact R_tsw dL_law__40 (tt := 2165) (by decide +kernel) (by decide +kernel) (LC_36 G X9 hi hl hz k4 s24 LK)
  · exact R_tsw dL_law__40 (tt := 2233) (by decide +kernel) (by decide +kernel) (LC_37 G X9 hi hl hz k4 s24 LK)
  · exact R_tsw dL_law__40 (tt := 2246) (by decide +kernel) (by decide +kernel) (LC_38 G X9 hi hl hz k4 s24 LK)
  · exact R_tsw dL_law__40 (tt := 2259) (by decide +kernel) (by decide +kernel) (LC_39 G X9 hi hl hz k4 s24 LK)
  · exact R_tsw dL_law__40 (tt := 2315) (by decide +kernel) (by decide +kernel) (LC_40 G X9 hi hl hz k4 s24 LK)
  · exact R_tsw dL_law__40 (tt := 2371) (by decide +kernel) (by decide +kernel) (LC_41 G X9 hi hl hz k4 s24 LK)
  · exact R_tsw dL_law__40 (tt := 2384) (by decide +kernel) (by decide +kernel) (LC_42 G X9 hi hl hz k4 s24 LK)
  · exact R_tsw dL_law__40 (tt := 2452) (by decide +kernel) (by decide +kernel) (LC_43 G X9 hi hl hz k4 s24 LK)
  · exact R_tsw dL_law__40 (tt := 2536) (by decide +kernel) (by decide +kernel) (LC_44 G X9 hi hl hz k4 s24 LK)
  · exact R_tsw dL_law__40 (tt := 2620) (by decide +kernel) (by decide +kernel) (LC_45 G X9 hi hl hz k4 s24 LK)
  · exact R_tsw dL_law__40 (tt := 2704) (by decide +kernel) (by decide +kernel) (LC_46 G X9 hi hl hz k4 s24 LK)
  · exact R_tsw dL_law__40 (tt := 2772) (by decide +kernel) (by decide +kernel) (LC_47 G X9 hi hl hz k4 s24 LK)
  · exact R_tsw dL_law__40 (tt := 2797) (by decide +kernel) (by decide +kernel) (LC_48 G X9 hi hl hz k4 s24 LK)
  · exact R_tsw dL_law__40 (tt := 2810) (by decide +kernel) (by decide +kernel) (LC_49 G X9 hi hl hz k4 s24 LK)
  · exact R_tsw dL_law__40 (tt := 2821) (by decide +kernel) (by decide +kernel) (LC_50 G X9 hi hl hz k4 s24 LK)
  · exact R_tsw dL_law__40 (tt := 2834) (by decide +kernel) (by decide +kernel) (LC_51 G X9 hi hl hz k4 s24 LK)
  · refine R_tsw dL_law__40 (tt := 2859) (by rw [if_pos (Or.inr (by omega))]; rfl) (by decide +kernel) ?_
    exact Run.le (by omega) (by omega) (LK _ _ _ X9)
theorem law_loop {g : Gs} {P : Po} (G : G9 g) (KP : ∀ h, P (.inl (some (vI 1))) g h) : ∀ (m i kc ks : Nat) (h : Hc) (a5 a6 : AV), g.2.2.1 ≤ i + m → i ≤ 4000 → 4 * m ≤ kc → 24 * m ≤ ks → IX h → Run 45 kc ks mL_law_ 23 [vX 0, vR 0, vR 281, vR 300, vI (i : Int), a5, a6] [] g h P := by
  intro m
  induction m with
  | zero =>
    intro i kc ks h a5 a6 hm hi4 _ _ X9
    refine iL4 dL_law__23 ?_
    refine xL0 dL_law__25 ?_
    refine R_slen dL_law__26 (fun hl hz => ?_)
    refine R_bipush dL_law__27 (by decide) ?_
    refine R_isub dL_law__29 ?_
    rw [wid (x := (g.2.2.1 : Int) - 6) (by omega) (by omega)]
    refine R_icmp_gt dL_law__30 (fun _ => ?_) (fun q => absurd (by omega) q)
    refine R_iconst_1 dL_law__2865 ?_
    exact R_zret dL_law__2866 rfl (Or.inr rfl) (KP h)
  | succ m ih =>
    intro i kc ks h a5 a6 hm hi4 hk hs X9
    refine iL4 dL_law__23 ?_
    refine xL0 dL_law__25 ?_
    refine R_slen dL_law__26 (fun hl hz => ?_)
    refine R_bipush dL_law__27 (by decide) ?_
    refine R_isub dL_law__29 ?_
    rw [wid (x := (g.2.2.1 : Int) - 6) (by omega) (by omega)]
    refine R_icmp_gt dL_law__30 (fun _ => ?_) (fun q => ?_)
    · refine R_iconst_1 dL_law__2865 ?_
      exact R_zret dL_law__2866 rfl (Or.inr rfl) (KP h)
    · refine xL0 dL_law__33 ?_
      refine iL4 dL_law__34 ?_
      refine R_sald dL_law__36 (by omega) (by omega) (fun _ => ?_)
      refine R_bipush dL_law__37 (by decide) ?_
      refine R_iand dL_law__39 ?_
      refine law_step G X9 (by omega) hl hz (by omega) (by omega) (fun h' b5 b6 X8 => ?_) (andI_63 _)
      refine iInc4 dL_law__2859 (v := ((i + 6 : Nat) : Int)) ((wid (by omega) (by omega)).trans (by omega)) ?_
      refine R_goto dL_law__2862 ?_
      exact ih (i + 6) (kc - 4) (ks - 24) h' b5 b6 (by omega) (by omega) (by omega) (by omega) X8
