/-! THE LAW'S LOOP -/
theorem tb_63 : ∀ k, k < 32 → tb 63 k = decide (k < 6) := by decide +kernel
theorem andI_63 (x : Int) : 0 ≤ andI x 63 ∧ andI x 63 ≤ 63 := by
  have h1 : 0 ≤ andI x 63 := andI_nonneg (by decide)
  refine ⟨h1, ?_⟩
  have h2 : andI x 63 = ((nset (tb (andI x 63)) 6 : Nat) : Int) := by
    refine tb_ext (in32_andI _ _) ?_ fun i hi => ?_
    · have := nset_lt (tb (andI x 63)) 6
      unfold in32; omega
    · rw [tb_nat hi, nset_bit]
      by_cases q : i < 6
      · simp [q]
      · rw [tb_and, tb_63 i (by omega)]
        simp [q]
  have := nset_lt (tb (andI x 63)) 6
  omega
theorem cmpL_self (a : Int) : cmpL a a = 0 := by unfold cmpL; rw [if_neg (by omega), if_pos rfl]
theorem konG {d kc ks mc : Nat} {y : Mth} {n : Nat} {ls st : List AV} {g : Gs} {P : Po} {h' : Hc} {v : AV} (g1 : g.2.1 = 1) (K : Run d kc ks y n ls (v :: st) g h' P) : Kon d kc ks y n ls st g mc P (.inl (some v)) g h' := ⟨fun e => absurd (e.symm.trans g1) (by decide), K⟩
theorem konGu {d kc ks mc : Nat} {y : Mth} {n : Nat} {ls st : List AV} {g : Gs} {P : Po} {h' : Hc} (g1 : g.2.1 = 1) (K : Run d kc ks y n ls st g h' P) : Kon d kc ks y n ls st g mc P (.inl none) g h' := ⟨fun e => absurd (e.symm.trans g1) (by decide), K⟩
theorem Run.le {d kc ks kc' ks' : Nat} {y : Mth} {n : Nat} {ls st : List AV} {g : Gs} {P : Po} {h : Hc} (h1 : kc' ≤ kc) (h2 : ks' ≤ ks) (K : Run d kc' ks' y n ls st g h P) : Run d kc ks y n ls st g h P := by
  intro z p l e R s m args below meth c H locs cells slots rls C hc hs
  exact K z p l e R s m args below meth c H locs cells slots rls C (by omega) (by omega)
/-- split's answer is a truth -/
def AgZ (g : Gs) (h1 : Hc) (y : Mth) (av : List AV) (c : Int) : Prop := ∀ P : Po, (∀ h' r, IX h' → h' 281 0 = c → (c = 0 → h' 300 0 = r) → (r = 0 ∨ r = 1) → P (.inl (some (vI r))) g h') → Call 44 0 0 y av g h1 P
theorem AG_splitZ {g : Gs} {h : Hc} {PX : Po} {w : Nat → Int} {A : Nat → Nat → Int} {n L : Nat} {b : Nat → Int} {im : Int} {wi : Nat → Int} {f : Int} (G : G9 g) (I : CLi h w A n L b im wi f) (J : MDi h w A n L b im wi f) (K : BTi w A n L b im wi) {x : Int} (KK : ∀ h1 c, AgZ g h1 mX12_split [vR 281, vI x] c → PX (.inl (some (vI c))) g h1) : Call 43 1 6 mX11_split [vR 0, vI x] g h (WrJZ [(xIO, 1)] 300 g PX) := by
  refine C_X11_split (d := 38) (X := 0) G.1 I.1 K.1 I.2.1 K.2.1 ?_ ?_
  · intro a1
    refine WrJZ.x (c := 1) List.mem_cons_self (KK _ _ (fun P2 K2 => ?_))
    refine C_X12_split (d := 34) (M := 281) G.2.1 J.1 K.1 K.2.1 ?_ ?_
    · intro b1 h2 pM
      have q := qM I J K pM
      exact K2 h2 0 q.1 q.2.1 (fun e => absurd e (by decide)) (Or.inl rfl)
    · intro c2 b1 b2 h2 pM
      exfalso; omega
  · intro c a1 a2 h1 oX
    refine WrJZ.v (KK _ _ (fun P2 K2 => ?_))
    have I1 := ((I.xs oX)).out (v := (bI (splB w c)))
    have J1 := ((J.xs oX)).out (v := (bI (splB w c)))
    refine C_X12_split (d := 34) (M := 281) G.2.1 J1.1 K.1 K.2.1 ?_ ?_
    · intro b1 h2 pM
      exfalso; omega
    · intro c2 b1 b2 h2 pM
      obtain rfl : c2 = c := by omega
      have q := qM I1 J1 K pM
      exact K2 h2 _ q.1 q.2.1 (fun _ => by rw [q.2.2]; exact updH_s _ _ _ _) (by cases splB w c2 with | true => exact Or.inr rfl | false => exact Or.inl rfl)
theorem AG_judge {g : Gs} {h : Hc} {PX : Po} {w : Nat → Int} {A : Nat → Nat → Int} {n L : Nat} {b : Nat → Int} {im : Int} {wi : Nat → Int} {f : Int} (G : G9 g) (I : CLi h w A n L b im wi f) (J : MDi h w A n L b im wi f) (K : BTi w A n L b im wi) {x y : Int} (KK : ∀ h1 c, AgJ g h1 mX12_judge [vR 281, vI x, vI y] c → PX (.inl (some (vI c))) g h1) : Call 43 2 12 mX11_judge [vR 0, vI x, vI y] g h (WrJ [(xIO, 1), (xNE, 2)] 300 g PX) := by
  by_cases hy : 0 ≤ y ∧ y ≤ 8
  · rcases (show y = 0 ∨ y = 1 ∨ y = 2 ∨ y = 3 ∨ y = 4 ∨ y = 5 ∨ y = 6 ∨ y = 7 ∨ y = 8 by omega) with rfl | rfl | rfl | rfl | rfl | rfl | rfl | rfl | rfl
    · exact AG_judge_0 G I J K KK
    · exact AG_judge_1 G I J K KK
    · exact AG_judge_2 G I J K KK
    · exact AG_judge_3 G I J K KK
    · exact AG_judge_4 G I J K KK
    · exact AG_judge_5 G I J K KK
    · exact AG_judge_6 G I J K KK
    · exact AG_judge_7 G I J K KK
    · exact AG_judge_8 G I J K KK
  · exact AG_judge_n G I J K hy KK
theorem AG_cause {g : Gs} {h : Hc} {PX : Po} {w : Nat → Int} {A : Nat → Nat → Int} {n L : Nat} {b : Nat → Int} {im : Int} {wi : Nat → Int} {f : Int} (G : G9 g) (I : CLi h w A n L b im wi f) (J : MDi h w A n L b im wi f) (K : BTi w A n L b im wi) {x y : Int} (KK : ∀ h1 c, AgJ g h1 mX12_cause [vR 281, vI x, vI y] c → PX (.inl (some (vI c))) g h1) : Call 43 2 12 mX11_cause [vR 0, vI x, vI y] g h (WrJ [(xIO, 1), (xNE, 2)] 300 g PX) := by
  by_cases hy : 0 ≤ y ∧ y ≤ 12
  · rcases (show y = 0 ∨ y = 1 ∨ y = 2 ∨ y = 3 ∨ y = 4 ∨ y = 5 ∨ y = 6 ∨ y = 7 ∨ y = 8 ∨ y = 9 ∨ y = 10 ∨ y = 11 ∨ y = 12 by omega) with rfl | rfl | rfl | rfl | rfl | rfl | rfl | rfl | rfl | rfl | rfl | rfl | rfl
    · exact AG_cause_0 G I J K KK
    · exact AG_cause_1 G I J K KK
    · exact AG_cause_2 G I J K KK
    · exact AG_cause_3 G I J K KK
    · exact AG_cause_4 G I J K KK
    · exact AG_cause_5 G I J K KK
    · exact AG_cause_6 G I J K KK
    · exact AG_cause_7 G I J K KK
    · exact AG_cause_8 G I J K KK
    · exact AG_cause_9 G I J K KK
    · exact AG_cause_10 G I J K KK
    · exact AG_cause_11 G I J K KK
    · exact AG_cause_12 G I J K KK
  · exact AG_cause_n G I J K hy KK
theorem AG_count {g : Gs} {h : Hc} {PX : Po} {w : Nat → Int} {A : Nat → Nat → Int} {n L : Nat} {b : Nat → Int} {im : Int} {wi : Nat → Int} {f : Int} (G : G9 g) (I : CLi h w A n L b im wi f) (J : MDi h w A n L b im wi f) (K : BTi w A n L b im wi) {y : Int} (KK : ∀ h1 v, AgV g h1 mX12_count [vR 281, vI y] v → PX (.inl (some (vI v))) g h1) : Call 44 0 0 mX11_count [vR 0, vI y] g h PX := by
  by_cases hy : 0 ≤ y ∧ y ≤ 10
  · rcases (show y = 0 ∨ y = 1 ∨ y = 2 ∨ y = 3 ∨ y = 4 ∨ y = 5 ∨ y = 6 ∨ y = 7 ∨ y = 8 ∨ y = 9 ∨ y = 10 by omega) with rfl | rfl | rfl | rfl | rfl | rfl | rfl | rfl | rfl | rfl | rfl
    · exact AG_count_0 G I J K KK
    · exact AG_count_1 G I J K KK
    · exact AG_count_2 G I J K KK
    · exact AG_count_3 G I J K KK
    · exact AG_count_4 G I J K KK
    · exact AG_count_5 G I J K KK
    · exact AG_count_6 G I J K KK
    · exact AG_count_7 G I J K KK
    · exact AG_count_8 G I J K KK
    · exact AG_count_9 G I J K KK
    · exact AG_count_10 G I J K KK
  · exact AG_count_n G I J K hy KK
theorem sarg1 {kc ks i : Nat} {g : Gs} {h : Hc} {P : Po} {a5 a6 : AV} {st : List AV} {pc n1 n2 n3 n4 n5 : Nat} (d1 : D mL_law_ pc (.aload_n 0) 1 n1) (d2 : D mL_law_ n1 (.iload 4) 2 n2) (d3 : D mL_law_ n2 (.iconst 1) 1 n3) (d4 : D mL_law_ n3 .iadd 1 n4) (d5 : D mL_law_ n4 .iaload 1 n5) (hi : i + 6 ≤ g.2.2.1) (hl : g.2.2.1 ≤ 3072) (K : Run 45 kc ks mL_law_ n5 [vX 0, vR 0, vR 281, vR 300, vI (i : Int), a5, a6] (vI (g.2.2.2 (i + 1)) :: st) g h P) : Run 45 kc ks mL_law_ pc [vX 0, vR 0, vR 281, vR 300, vI (i : Int), a5, a6] st g h P := by
  refine xL0 d1 ?_
  refine iL4 d2 ?_
  refine R_iconst_1 d3 ?_
  refine R_iadd d4 ?_
  rw [wid (x := (i : Int) + 1) (by omega) (by omega), show (i : Int) + 1 = ((i + 1 : Nat) : Int) by omega]
  refine R_sald d5 (by omega) (by omega) (fun _ => ?_)
  exact K
theorem sarg2 {kc ks i : Nat} {g : Gs} {h : Hc} {P : Po} {a5 a6 : AV} {st : List AV} {pc n1 n2 n3 n4 n5 : Nat} (d1 : D mL_law_ pc (.aload_n 0) 1 n1) (d2 : D mL_law_ n1 (.iload 4) 2 n2) (d3 : D mL_law_ n2 (.iconst 2) 1 n3) (d4 : D mL_law_ n3 .iadd 1 n4) (d5 : D mL_law_ n4 .iaload 1 n5) (hi : i + 6 ≤ g.2.2.1) (hl : g.2.2.1 ≤ 3072) (K : Run 45 kc ks mL_law_ n5 [vX 0, vR 0, vR 281, vR 300, vI (i : Int), a5, a6] (vI (g.2.2.2 (i + 2)) :: st) g h P) : Run 45 kc ks mL_law_ pc [vX 0, vR 0, vR 281, vR 300, vI (i : Int), a5, a6] st g h P := by
  refine xL0 d1 ?_
  refine iL4 d2 ?_
  refine R_iconst_2 d3 ?_
  refine R_iadd d4 ?_
  rw [wid (x := (i : Int) + 2) (by omega) (by omega), show (i : Int) + 2 = ((i + 2 : Nat) : Int) by omega]
  refine R_sald d5 (by omega) (by omega) (fun _ => ?_)
  exact K
theorem sarg3 {kc ks i : Nat} {g : Gs} {h : Hc} {P : Po} {a5 a6 : AV} {st : List AV} {pc n1 n2 n3 n4 n5 : Nat} (d1 : D mL_law_ pc (.aload_n 0) 1 n1) (d2 : D mL_law_ n1 (.iload 4) 2 n2) (d3 : D mL_law_ n2 (.iconst 3) 1 n3) (d4 : D mL_law_ n3 .iadd 1 n4) (d5 : D mL_law_ n4 .iaload 1 n5) (hi : i + 6 ≤ g.2.2.1) (hl : g.2.2.1 ≤ 3072) (K : Run 45 kc ks mL_law_ n5 [vX 0, vR 0, vR 281, vR 300, vI (i : Int), a5, a6] (vI (g.2.2.2 (i + 3)) :: st) g h P) : Run 45 kc ks mL_law_ pc [vX 0, vR 0, vR 281, vR 300, vI (i : Int), a5, a6] st g h P := by
  refine xL0 d1 ?_
  refine iL4 d2 ?_
  refine R_iconst_3 d3 ?_
  refine R_iadd d4 ?_
  rw [wid (x := (i : Int) + 3) (by omega) (by omega), show (i : Int) + 3 = ((i + 3 : Nat) : Int) by omega]
  refine R_sald d5 (by omega) (by omega) (fun _ => ?_)
  exact K
theorem sarg4 {kc ks i : Nat} {g : Gs} {h : Hc} {P : Po} {a5 a6 : AV} {st : List AV} {pc n1 n2 n3 n4 n5 : Nat} (d1 : D mL_law_ pc (.aload_n 0) 1 n1) (d2 : D mL_law_ n1 (.iload 4) 2 n2) (d3 : D mL_law_ n2 (.iconst 4) 1 n3) (d4 : D mL_law_ n3 .iadd 1 n4) (d5 : D mL_law_ n4 .iaload 1 n5) (hi : i + 6 ≤ g.2.2.1) (hl : g.2.2.1 ≤ 3072) (K : Run 45 kc ks mL_law_ n5 [vX 0, vR 0, vR 281, vR 300, vI (i : Int), a5, a6] (vI (g.2.2.2 (i + 4)) :: st) g h P) : Run 45 kc ks mL_law_ pc [vX 0, vR 0, vR 281, vR 300, vI (i : Int), a5, a6] st g h P := by
  refine xL0 d1 ?_
  refine iL4 d2 ?_
  refine R_iconst_4 d3 ?_
  refine R_iadd d4 ?_
  rw [wid (x := (i : Int) + 4) (by omega) (by omega), show (i : Int) + 4 = ((i + 4 : Nat) : Int) by omega]
  refine R_sald d5 (by omega) (by omega) (fun _ => ?_)
  exact K
theorem sarg5 {kc ks i : Nat} {g : Gs} {h : Hc} {P : Po} {a5 a6 : AV} {st : List AV} {pc n1 n2 n3 n4 n5 : Nat} (d1 : D mL_law_ pc (.aload_n 0) 1 n1) (d2 : D mL_law_ n1 (.iload 4) 2 n2) (d3 : D mL_law_ n2 (.iconst 5) 1 n3) (d4 : D mL_law_ n3 .iadd 1 n4) (d5 : D mL_law_ n4 .iaload 1 n5) (hi : i + 6 ≤ g.2.2.1) (hl : g.2.2.1 ≤ 3072) (K : Run 45 kc ks mL_law_ n5 [vX 0, vR 0, vR 281, vR 300, vI (i : Int), a5, a6] (vI (g.2.2.2 (i + 5)) :: st) g h P) : Run 45 kc ks mL_law_ pc [vX 0, vR 0, vR 281, vR 300, vI (i : Int), a5, a6] st g h P := by
  refine xL0 d1 ?_
  refine iL4 d2 ?_
  refine R_iconst_5 d3 ?_
  refine R_iadd d4 ?_
  rw [wid (x := (i : Int) + 5) (by omega) (by omega), show (i : Int) + 5 = ((i + 5 : Nat) : Int) by omega]
  refine R_sald d5 (by omega) (by omega) (fun _ => ?_)
  exact K
theorem LC_0 {g : Gs} {h : Hc} {P : Po} {kc ks i : Nat} {a5 a6 : AV} (G : G9 g) (X9 : IX h) (hi : i + 6 ≤ g.2.2.1) (hl : g.2.2.1 ≤ 3072) (hz : ∀ i, in32 (g.2.2.2 i)) (k4 : 4 ≤ kc) (s24 : 24 ≤ ks) (LK : ∀ h' b5 b6, IX h' → Run 45 (kc - 4) (ks - 24) mL_law_ 2859 [vX 0, vR 0, vR 281, vR 300, vI (i : Int), b5, b6] [] g h' P) : Run 45 kc ks mL_law_ 264 [vX 0, vR 0, vR 281, vR 300, vI (i : Int), a5, a6] [] g h P := by
  obtain ⟨w, A, n, L, b, im, wi, f, I, J, K⟩ := X9
  refine aL1 dL_law__264 ?_
  refine sarg1 dL_law__265 dL_law__266 dL_law__268 dL_law__269 dL_law__270 hi hl ?_
  refine sarg2 dL_law__271 dL_law__272 dL_law__274 dL_law__275 dL_law__276 hi hl ?_
  refine sarg3 dL_law__277 dL_law__278 dL_law__280 dL_law__281 dL_law__282 hi hl ?_
  refine sarg4 dL_law__283 dL_law__284 dL_law__286 dL_law__287 dL_law__288 hi hl ?_
  refine sarg5 dL_law__289 dL_law__290 dL_law__292 dL_law__293 dL_law__294 hi hl ?_
  refine invV5 rfl dL_law__295 kL_131 G.1.o (Nat.le_of_ble_eq_true rfl) (Nat.zero_le _) (Nat.zero_le _) (AG_feed G I J K (fun h1 v A9 => konG G.1.1 ?_))
  refine aL2 dL_law__298 ?_
  refine sarg1 dL_law__299 dL_law__300 dL_law__302 dL_law__303 dL_law__304 hi hl ?_
  refine sarg2 dL_law__305 dL_law__306 dL_law__308 dL_law__309 dL_law__310 hi hl ?_
  refine sarg3 dL_law__311 dL_law__312 dL_law__314 dL_law__315 dL_law__316 hi hl ?_
  refine sarg4 dL_law__317 dL_law__318 dL_law__320 dL_law__321 dL_law__322 hi hl ?_
  refine sarg5 dL_law__323 dL_law__324 dL_law__326 dL_law__327 dL_law__328 hi hl ?_
  refine invV5 rfl dL_law__329 kL_135 G.2.1.o (Nat.le_of_ble_eq_true rfl) (Nat.zero_le _) (Nat.zero_le _) (A9 _ (fun h2 ix9 => konI ?_))
  exact R_icmp_eq dL_law__332 (fun _ => Run.le (by omega) (by omega) (LK _ _ _ ix9)) (fun e => absurd rfl e)
theorem LC_1 {g : Gs} {h : Hc} {P : Po} {kc ks i : Nat} {a5 a6 : AV} (G : G9 g) (X9 : IX h) (hi : i + 6 ≤ g.2.2.1) (hl : g.2.2.1 ≤ 3072) (hz : ∀ i, in32 (g.2.2.2 i)) (k4 : 4 ≤ kc) (s24 : 24 ≤ ks) (LK : ∀ h' b5 b6, IX h' → Run 45 (kc - 4) (ks - 24) mL_law_ 2859 [vX 0, vR 0, vR 281, vR 300, vI (i : Int), b5, b6] [] g h' P) : Run 45 kc ks mL_law_ 337 [vX 0, vR 0, vR 281, vR 300, vI (i : Int), a5, a6] [] g h P := by
  obtain ⟨w, A, n, L, b, im, wi, f, I, J, K⟩ := X9
  refine aL1 dL_law__337 ?_
  refine sarg1 dL_law__338 dL_law__339 dL_law__341 dL_law__342 dL_law__343 hi hl ?_
  refine invV1 rfl dL_law__344 kL_136 G.1.o (Nat.le_of_ble_eq_true rfl) (Nat.zero_le _) (Nat.zero_le _) (AG_end G I J K (fun h1 v A9 => konG G.1.1 ?_))
  refine aL2 dL_law__347 ?_
  refine sarg1 dL_law__348 dL_law__349 dL_law__351 dL_law__352 dL_law__353 hi hl ?_
  refine invV1 rfl dL_law__354 kL_139 G.2.1.o (Nat.le_of_ble_eq_true rfl) (Nat.zero_le _) (Nat.zero_le _) (A9 _ (fun h2 ix9 => konI ?_))
  exact R_icmp_eq dL_law__357 (fun _ => Run.le (by omega) (by omega) (LK _ _ _ ix9)) (fun e => absurd rfl e)
theorem LC_2 {g : Gs} {h : Hc} {P : Po} {kc ks i : Nat} {a5 a6 : AV} (G : G9 g) (X9 : IX h) (hi : i + 6 ≤ g.2.2.1) (hl : g.2.2.1 ≤ 3072) (hz : ∀ i, in32 (g.2.2.2 i)) (k4 : 4 ≤ kc) (s24 : 24 ≤ ks) (LK : ∀ h' b5 b6, IX h' → Run 45 (kc - 4) (ks - 24) mL_law_ 2859 [vX 0, vR 0, vR 281, vR 300, vI (i : Int), b5, b6] [] g h' P) : Run 45 kc ks mL_law_ 362 [vX 0, vR 0, vR 281, vR 300, vI (i : Int), a5, a6] [] g h P := by
  obtain ⟨w, A, n, L, b, im, wi, f, I, J, K⟩ := X9
  refine aL1 dL_law__362 ?_
  refine aL3 dL_law__363 ?_
  refine R_invHg (av := [vR 0, vR 300]) (st := []) rfl dL_law__364 kL_140 rfl (Nat.le_of_ble_eq_true rfl) (mc := 1) (ms := 6) (by omega) (by omega) (C_L_assize G.1.o G.2.2 G.1.1 (AG_assize G I J K (fun h1 c A9 => konG G.1.1 ?_)))
  refine iS5 dL_law__367 ?_
  refine aL2 dL_law__369 ?_
  refine invV0 rfl dL_law__370 kL_145 G.2.1.o (Nat.le_of_ble_eq_true rfl) (Nat.zero_le _) (Nat.zero_le _) (A9 _ (fun h2 r ix9 t9 o9 => konI ?_))
  refine iS6 dL_law__373 ?_
  refine aL2 dL_law__375 ?_
  refine invV0 rfl dL_law__376 kL_146 G.2.1.o (Nat.le_of_ble_eq_true rfl) (Nat.zero_le _) (Nat.zero_le _) (C_X12_thrown (d := 44) (M := 281) G.2.1 (konI ?_))
  rw [t9]
  refine iL5 dL_law__379 ?_
  refine R_icmp_eq dL_law__381 (fun _ => ?_) (fun e => absurd rfl e)
  refine iL5 dL_law__386 ?_
  refine R_if_ne dL_law__388 (fun ec => ?_) (fun ec => ?_)
  · refine R_goto dL_law__403 ?_
    exact Run.le (by omega) (by omega) (LK _ _ _ ix9)
  · have o8 := o9 ec
    refine aL3 dL_law__391 ?_
    refine R_iconst_0 dL_law__392 ?_
    refine R_lald dL_law__393 G.2.2 (Int.le_refl 0) (by decide) ?_
    rw [show h2 300 (0 : Int).toNat = r from o8]
    refine iL6 dL_law__394 ?_
    refine R_i2l dL_law__396 ?_
    refine R_lcmp dL_law__397 ?_
    rw [cmpL_self]
    refine R_if_eq dL_law__398 (fun _ => ?_) (fun e => absurd rfl e)
    refine R_goto dL_law__403 ?_
    exact Run.le (by omega) (by omega) (LK _ _ _ ix9)
theorem LC_3 {g : Gs} {h : Hc} {P : Po} {kc ks i : Nat} {a5 a6 : AV} (G : G9 g) (X9 : IX h) (hi : i + 6 ≤ g.2.2.1) (hl : g.2.2.1 ≤ 3072) (hz : ∀ i, in32 (g.2.2.2 i)) (k4 : 4 ≤ kc) (s24 : 24 ≤ ks) (LK : ∀ h' b5 b6, IX h' → Run 45 (kc - 4) (ks - 24) mL_law_ 2859 [vX 0, vR 0, vR 281, vR 300, vI (i : Int), b5, b6] [] g h' P) : Run 45 kc ks mL_law_ 406 [vX 0, vR 0, vR 281, vR 300, vI (i : Int), a5, a6] [] g h P := by
  obtain ⟨w, A, n, L, b, im, wi, f, I, J, K⟩ := X9
  refine aL1 dL_law__406 ?_
  refine aL3 dL_law__407 ?_
  refine R_invHg (av := [vR 0, vR 300]) (st := []) rfl dL_law__408 kL_149 rfl (Nat.le_of_ble_eq_true rfl) (mc := 1) (ms := 6) (by omega) (by omega) (C_L_law G.1.o G.2.2 G.1.1 (AG_law G I J K (fun h1 c A9 => konG G.1.1 ?_)))
  refine iS5 dL_law__411 ?_
  refine aL2 dL_law__413 ?_
  refine invV0 rfl dL_law__414 kL_151 G.2.1.o (Nat.le_of_ble_eq_true rfl) (Nat.zero_le _) (Nat.zero_le _) (A9 _ (fun h2 r ix9 t9 o9 => konI ?_))
  refine iS6 dL_law__417 ?_
  refine aL2 dL_law__419 ?_
  refine invV0 rfl dL_law__420 kL_146 G.2.1.o (Nat.le_of_ble_eq_true rfl) (Nat.zero_le _) (Nat.zero_le _) (C_X12_thrown (d := 44) (M := 281) G.2.1 (konI ?_))
  rw [t9]
  refine iL5 dL_law__423 ?_
  refine R_icmp_eq dL_law__425 (fun _ => ?_) (fun e => absurd rfl e)
  refine iL5 dL_law__430 ?_
  refine R_if_ne dL_law__432 (fun ec => ?_) (fun ec => ?_)
  · refine R_goto dL_law__447 ?_
    exact Run.le (by omega) (by omega) (LK _ _ _ ix9)
  · have o8 := o9 ec
    refine aL3 dL_law__435 ?_
    refine R_iconst_0 dL_law__436 ?_
    refine R_lald dL_law__437 G.2.2 (Int.le_refl 0) (by decide) ?_
    rw [show h2 300 (0 : Int).toNat = r from o8]
    refine iL6 dL_law__438 ?_
    refine R_i2l dL_law__440 ?_
    refine R_lcmp dL_law__441 ?_
    rw [cmpL_self]
    refine R_if_eq dL_law__442 (fun _ => ?_) (fun e => absurd rfl e)
    refine R_goto dL_law__447 ?_
    exact Run.le (by omega) (by omega) (LK _ _ _ ix9)
theorem LC_4 {g : Gs} {h : Hc} {P : Po} {kc ks i : Nat} {a5 a6 : AV} (G : G9 g) (X9 : IX h) (hi : i + 6 ≤ g.2.2.1) (hl : g.2.2.1 ≤ 3072) (hz : ∀ i, in32 (g.2.2.2 i)) (k4 : 4 ≤ kc) (s24 : 24 ≤ ks) (LK : ∀ h' b5 b6, IX h' → Run 45 (kc - 4) (ks - 24) mL_law_ 2859 [vX 0, vR 0, vR 281, vR 300, vI (i : Int), b5, b6] [] g h' P) : Run 45 kc ks mL_law_ 450 [vX 0, vR 0, vR 281, vR 300, vI (i : Int), a5, a6] [] g h P := by
  obtain ⟨w, A, n, L, b, im, wi, f, I, J, K⟩ := X9
  refine aL1 dL_law__450 ?_
  refine invV0 rfl dL_law__451 kL_152 G.1.o (Nat.le_of_ble_eq_true rfl) (Nat.zero_le _) (Nat.zero_le _) (AG_fault G I J K (fun h1 v A9 => konG G.1.1 ?_))
  refine aL2 dL_law__454 ?_
  refine invV0 rfl dL_law__455 kL_155 G.2.1.o (Nat.le_of_ble_eq_true rfl) (Nat.zero_le _) (Nat.zero_le _) (A9 _ (fun h2 ix9 => konI ?_))
  exact R_icmp_eq dL_law__458 (fun _ => Run.le (by omega) (by omega) (LK _ _ _ ix9)) (fun e => absurd rfl e)
theorem LC_5 {g : Gs} {h : Hc} {P : Po} {kc ks i : Nat} {a5 a6 : AV} (G : G9 g) (X9 : IX h) (hi : i + 6 ≤ g.2.2.1) (hl : g.2.2.1 ≤ 3072) (hz : ∀ i, in32 (g.2.2.2 i)) (k4 : 4 ≤ kc) (s24 : 24 ≤ ks) (LK : ∀ h' b5 b6, IX h' → Run 45 (kc - 4) (ks - 24) mL_law_ 2859 [vX 0, vR 0, vR 281, vR 300, vI (i : Int), b5, b6] [] g h' P) : Run 45 kc ks mL_law_ 463 [vX 0, vR 0, vR 281, vR 300, vI (i : Int), a5, a6] [] g h P := by
  obtain ⟨w, A, n, L, b, im, wi, f, I, J, K⟩ := X9
  refine aL1 dL_law__463 ?_
  refine sarg1 dL_law__464 dL_law__465 dL_law__467 dL_law__468 dL_law__469 hi hl ?_
  refine sarg2 dL_law__470 dL_law__471 dL_law__473 dL_law__474 dL_law__475 hi hl ?_
  refine aL3 dL_law__476 ?_
  refine R_invHg (av := [vR 0, vI (g.2.2.2 (i + 1)), vI (g.2.2.2 (i + 2)), vR 300]) (st := []) rfl dL_law__477 kL_156 rfl (Nat.le_of_ble_eq_true rfl) (mc := 2) (ms := 12) (by omega) (by omega) (C_L_judge G.1.o G.2.2 G.1.1 (AG_judge G I J K (fun h1 c A9 => konG G.1.1 ?_)))
  refine iS5 dL_law__480 ?_
  refine aL2 dL_law__482 ?_
  refine sarg1 dL_law__483 dL_law__484 dL_law__486 dL_law__487 dL_law__488 hi hl ?_
  refine sarg2 dL_law__489 dL_law__490 dL_law__492 dL_law__493 dL_law__494 hi hl ?_
  refine invV2 rfl dL_law__495 kL_159 G.2.1.o (Nat.le_of_ble_eq_true rfl) (Nat.zero_le _) (Nat.zero_le _) (A9 _ (fun h2 r ix9 t9 o9 => konI ?_))
  refine iS6 dL_law__498 ?_
  refine aL2 dL_law__500 ?_
  refine invV0 rfl dL_law__501 kL_146 G.2.1.o (Nat.le_of_ble_eq_true rfl) (Nat.zero_le _) (Nat.zero_le _) (C_X12_thrown (d := 44) (M := 281) G.2.1 (konI ?_))
  rw [t9]
  refine iL5 dL_law__504 ?_
  refine R_icmp_eq dL_law__506 (fun _ => ?_) (fun e => absurd rfl e)
  refine iL5 dL_law__511 ?_
  refine R_if_ne dL_law__513 (fun ec => ?_) (fun ec => ?_)
  · refine R_goto dL_law__528 ?_
    exact Run.le (by omega) (by omega) (LK _ _ _ ix9)
  · have o8 := o9 ec
    refine aL3 dL_law__516 ?_
    refine R_iconst_0 dL_law__517 ?_
    refine R_lald dL_law__518 G.2.2 (Int.le_refl 0) (by decide) ?_
    rw [show h2 300 (0 : Int).toNat = r from o8]
    refine iL6 dL_law__519 ?_
    refine R_i2l dL_law__521 ?_
    refine R_lcmp dL_law__522 ?_
    rw [cmpL_self]
    refine R_if_eq dL_law__523 (fun _ => ?_) (fun e => absurd rfl e)
    refine R_goto dL_law__528 ?_
    exact Run.le (by omega) (by omega) (LK _ _ _ ix9)
theorem LC_6 {g : Gs} {h : Hc} {P : Po} {kc ks i : Nat} {a5 a6 : AV} (G : G9 g) (X9 : IX h) (hi : i + 6 ≤ g.2.2.1) (hl : g.2.2.1 ≤ 3072) (hz : ∀ i, in32 (g.2.2.2 i)) (k4 : 4 ≤ kc) (s24 : 24 ≤ ks) (LK : ∀ h' b5 b6, IX h' → Run 45 (kc - 4) (ks - 24) mL_law_ 2859 [vX 0, vR 0, vR 281, vR 300, vI (i : Int), b5, b6] [] g h' P) : Run 45 kc ks mL_law_ 531 [vX 0, vR 0, vR 281, vR 300, vI (i : Int), a5, a6] [] g h P := by
  obtain ⟨w, A, n, L, b, im, wi, f, I, J, K⟩ := X9
  refine aL1 dL_law__531 ?_
  refine sarg1 dL_law__532 dL_law__533 dL_law__535 dL_law__536 dL_law__537 hi hl ?_
  refine sarg2 dL_law__538 dL_law__539 dL_law__541 dL_law__542 dL_law__543 hi hl ?_
  refine aL3 dL_law__544 ?_
  refine R_invHg (av := [vR 0, vI (g.2.2.2 (i + 1)), vI (g.2.2.2 (i + 2)), vR 300]) (st := []) rfl dL_law__545 kL_160 rfl (Nat.le_of_ble_eq_true rfl) (mc := 2) (ms := 12) (by omega) (by omega) (C_L_cause G.1.o G.2.2 G.1.1 (AG_cause G I J K (fun h1 c A9 => konG G.1.1 ?_)))
  refine iS5 dL_law__548 ?_
  refine aL2 dL_law__550 ?_
  refine sarg1 dL_law__551 dL_law__552 dL_law__554 dL_law__555 dL_law__556 hi hl ?_
  refine sarg2 dL_law__557 dL_law__558 dL_law__560 dL_law__561 dL_law__562 hi hl ?_
  refine invV2 rfl dL_law__563 kL_162 G.2.1.o (Nat.le_of_ble_eq_true rfl) (Nat.zero_le _) (Nat.zero_le _) (A9 _ (fun h2 r ix9 t9 o9 => konI ?_))
  refine iS6 dL_law__566 ?_
  refine aL2 dL_law__568 ?_
  refine invV0 rfl dL_law__569 kL_146 G.2.1.o (Nat.le_of_ble_eq_true rfl) (Nat.zero_le _) (Nat.zero_le _) (C_X12_thrown (d := 44) (M := 281) G.2.1 (konI ?_))
  rw [t9]
  refine iL5 dL_law__572 ?_
  refine R_icmp_eq dL_law__574 (fun _ => ?_) (fun e => absurd rfl e)
  refine iL5 dL_law__579 ?_
  refine R_if_ne dL_law__581 (fun ec => ?_) (fun ec => ?_)
  · refine R_goto dL_law__596 ?_
    exact Run.le (by omega) (by omega) (LK _ _ _ ix9)
  · have o8 := o9 ec
    refine aL3 dL_law__584 ?_
    refine R_iconst_0 dL_law__585 ?_
    refine R_lald dL_law__586 G.2.2 (Int.le_refl 0) (by decide) ?_
    rw [show h2 300 (0 : Int).toNat = r from o8]
    refine iL6 dL_law__587 ?_
    refine R_i2l dL_law__589 ?_
    refine R_lcmp dL_law__590 ?_
    rw [cmpL_self]
    refine R_if_eq dL_law__591 (fun _ => ?_) (fun e => absurd rfl e)
    refine R_goto dL_law__596 ?_
    exact Run.le (by omega) (by omega) (LK _ _ _ ix9)
theorem LC_7 {g : Gs} {h : Hc} {P : Po} {kc ks i : Nat} {a5 a6 : AV} (G : G9 g) (X9 : IX h) (hi : i + 6 ≤ g.2.2.1) (hl : g.2.2.1 ≤ 3072) (hz : ∀ i, in32 (g.2.2.2 i)) (k4 : 4 ≤ kc) (s24 : 24 ≤ ks) (LK : ∀ h' b5 b6, IX h' → Run 45 (kc - 4) (ks - 24) mL_law_ 2859 [vX 0, vR 0, vR 281, vR 300, vI (i : Int), b5, b6] [] g h' P) : Run 45 kc ks mL_law_ 599 [vX 0, vR 0, vR 281, vR 300, vI (i : Int), a5, a6] [] g h P := by
  obtain ⟨w, A, n, L, b, im, wi, f, I, J, K⟩ := X9
  refine aL1 dL_law__599 ?_
  refine sarg1 dL_law__600 dL_law__601 dL_law__603 dL_law__604 dL_law__605 hi hl ?_
  refine sarg2 dL_law__606 dL_law__607 dL_law__609 dL_law__610 dL_law__611 hi hl ?_
  refine aL3 dL_law__612 ?_
  refine R_invHg (av := [vR 0, vI (g.2.2.2 (i + 1)), vI (g.2.2.2 (i + 2)), vR 300]) (st := []) rfl dL_law__613 kL_163 rfl (Nat.le_of_ble_eq_true rfl) (mc := 2) (ms := 12) (by omega) (by omega) (C_L_listed G.1.o G.2.2 G.1.1 (AG_listed G I J K (fun h1 c A9 => konG G.1.1 ?_)))
  refine iS5 dL_law__616 ?_
  refine aL2 dL_law__618 ?_
  refine sarg1 dL_law__619 dL_law__620 dL_law__622 dL_law__623 dL_law__624 hi hl ?_
  refine sarg2 dL_law__625 dL_law__626 dL_law__628 dL_law__629 dL_law__630 hi hl ?_
  refine invV2 rfl dL_law__631 kL_165 G.2.1.o (Nat.le_of_ble_eq_true rfl) (Nat.zero_le _) (Nat.zero_le _) (A9 _ (fun h2 r ix9 t9 o9 => konI ?_))
  refine iS6 dL_law__634 ?_
  refine aL2 dL_law__636 ?_
  refine invV0 rfl dL_law__637 kL_146 G.2.1.o (Nat.le_of_ble_eq_true rfl) (Nat.zero_le _) (Nat.zero_le _) (C_X12_thrown (d := 44) (M := 281) G.2.1 (konI ?_))
  rw [t9]
  refine iL5 dL_law__640 ?_
  refine R_icmp_eq dL_law__642 (fun _ => ?_) (fun e => absurd rfl e)
  refine iL5 dL_law__647 ?_
  refine R_if_ne dL_law__649 (fun ec => ?_) (fun ec => ?_)
  · refine R_goto dL_law__664 ?_
    exact Run.le (by omega) (by omega) (LK _ _ _ ix9)
  · have o8 := o9 ec
    refine aL3 dL_law__652 ?_
    refine R_iconst_0 dL_law__653 ?_
    refine R_lald dL_law__654 G.2.2 (Int.le_refl 0) (by decide) ?_
    rw [show h2 300 (0 : Int).toNat = r from o8]
    refine iL6 dL_law__655 ?_
    refine R_i2l dL_law__657 ?_
    refine R_lcmp dL_law__658 ?_
    rw [cmpL_self]
    refine R_if_eq dL_law__659 (fun _ => ?_) (fun e => absurd rfl e)
    refine R_goto dL_law__664 ?_
    exact Run.le (by omega) (by omega) (LK _ _ _ ix9)
theorem LC_8 {g : Gs} {h : Hc} {P : Po} {kc ks i : Nat} {a5 a6 : AV} (G : G9 g) (X9 : IX h) (hi : i + 6 ≤ g.2.2.1) (hl : g.2.2.1 ≤ 3072) (hz : ∀ i, in32 (g.2.2.2 i)) (k4 : 4 ≤ kc) (s24 : 24 ≤ ks) (LK : ∀ h' b5 b6, IX h' → Run 45 (kc - 4) (ks - 24) mL_law_ 2859 [vX 0, vR 0, vR 281, vR 300, vI (i : Int), b5, b6] [] g h' P) : Run 45 kc ks mL_law_ 667 [vX 0, vR 0, vR 281, vR 300, vI (i : Int), a5, a6] [] g h P := by
  obtain ⟨w, A, n, L, b, im, wi, f, I, J, K⟩ := X9
  refine aL1 dL_law__667 ?_
  refine sarg1 dL_law__668 dL_law__669 dL_law__671 dL_law__672 dL_law__673 hi hl ?_
  refine aL3 dL_law__674 ?_
  refine R_invHg (av := [vR 0, vI (g.2.2.2 (i + 1)), vR 300]) (st := []) rfl dL_law__675 kL_166 rfl (Nat.le_of_ble_eq_true rfl) (mc := 1) (ms := 6) (by omega) (by omega) (C_L_smell G.1.o G.2.2 G.1.1 (AG_smell G I J K (fun h1 c A9 => konG G.1.1 ?_)))
  refine iS5 dL_law__678 ?_
  refine aL2 dL_law__680 ?_
  refine sarg1 dL_law__681 dL_law__682 dL_law__684 dL_law__685 dL_law__686 hi hl ?_
  refine invV1 rfl dL_law__687 kL_169 G.2.1.o (Nat.le_of_ble_eq_true rfl) (Nat.zero_le _) (Nat.zero_le _) (A9 _ (fun h2 r ix9 t9 o9 => konI ?_))
  refine iS6 dL_law__690 ?_
  refine aL2 dL_law__692 ?_
  refine invV0 rfl dL_law__693 kL_146 G.2.1.o (Nat.le_of_ble_eq_true rfl) (Nat.zero_le _) (Nat.zero_le _) (C_X12_thrown (d := 44) (M := 281) G.2.1 (konI ?_))
  rw [t9]
  refine iL5 dL_law__696 ?_
  refine R_icmp_eq dL_law__698 (fun _ => ?_) (fun e => absurd rfl e)
  refine iL5 dL_law__703 ?_
  refine R_if_ne dL_law__705 (fun ec => ?_) (fun ec => ?_)
  · refine R_goto dL_law__720 ?_
    exact Run.le (by omega) (by omega) (LK _ _ _ ix9)
  · have o8 := o9 ec
    refine aL3 dL_law__708 ?_
    refine R_iconst_0 dL_law__709 ?_
    refine R_lald dL_law__710 G.2.2 (Int.le_refl 0) (by decide) ?_
    rw [show h2 300 (0 : Int).toNat = r from o8]
    refine iL6 dL_law__711 ?_
    refine R_i2l dL_law__713 ?_
    refine R_lcmp dL_law__714 ?_
    rw [cmpL_self]
    refine R_if_eq dL_law__715 (fun _ => ?_) (fun e => absurd rfl e)
    refine R_goto dL_law__720 ?_
    exact Run.le (by omega) (by omega) (LK _ _ _ ix9)
theorem LC_9 {g : Gs} {h : Hc} {P : Po} {kc ks i : Nat} {a5 a6 : AV} (G : G9 g) (X9 : IX h) (hi : i + 6 ≤ g.2.2.1) (hl : g.2.2.1 ≤ 3072) (hz : ∀ i, in32 (g.2.2.2 i)) (k4 : 4 ≤ kc) (s24 : 24 ≤ ks) (LK : ∀ h' b5 b6, IX h' → Run 45 (kc - 4) (ks - 24) mL_law_ 2859 [vX 0, vR 0, vR 281, vR 300, vI (i : Int), b5, b6] [] g h' P) : Run 45 kc ks mL_law_ 723 [vX 0, vR 0, vR 281, vR 300, vI (i : Int), a5, a6] [] g h P := by
  obtain ⟨w, A, n, L, b, im, wi, f, I, J, K⟩ := X9
  refine aL1 dL_law__723 ?_
  refine sarg1 dL_law__724 dL_law__725 dL_law__727 dL_law__728 dL_law__729 hi hl ?_
  refine sarg2 dL_law__730 dL_law__731 dL_law__733 dL_law__734 dL_law__735 hi hl ?_
  refine sarg3 dL_law__736 dL_law__737 dL_law__739 dL_law__740 dL_law__741 hi hl ?_
  refine aL3 dL_law__742 ?_
  refine R_invHg (av := [vR 0, vI (g.2.2.2 (i + 1)), vI (g.2.2.2 (i + 2)), vI (g.2.2.2 (i + 3)), vR 300]) (st := []) rfl dL_law__743 kL_170 rfl (Nat.le_of_ble_eq_true rfl) (mc := 3) (ms := 18) (by omega) (by omega) (C_L_point G.1.o G.2.2 G.1.1 (AG_point G I J K (fun h1 c A9 => konG G.1.1 ?_)))
  refine iS5 dL_law__746 ?_
  refine aL2 dL_law__748 ?_
  refine sarg1 dL_law__749 dL_law__750 dL_law__752 dL_law__753 dL_law__754 hi hl ?_
  refine sarg2 dL_law__755 dL_law__756 dL_law__758 dL_law__759 dL_law__760 hi hl ?_
  refine sarg3 dL_law__761 dL_law__762 dL_law__764 dL_law__765 dL_law__766 hi hl ?_
  refine invV3 rfl dL_law__767 kL_173 G.2.1.o (Nat.le_of_ble_eq_true rfl) (Nat.zero_le _) (Nat.zero_le _) (A9 _ (fun h2 r ix9 t9 o9 => konI ?_))
  refine iS6 dL_law__770 ?_
  refine aL2 dL_law__772 ?_
  refine invV0 rfl dL_law__773 kL_146 G.2.1.o (Nat.le_of_ble_eq_true rfl) (Nat.zero_le _) (Nat.zero_le _) (C_X12_thrown (d := 44) (M := 281) G.2.1 (konI ?_))
  rw [t9]
  refine iL5 dL_law__776 ?_
  refine R_icmp_eq dL_law__778 (fun _ => ?_) (fun e => absurd rfl e)
  refine iL5 dL_law__783 ?_
  refine R_if_ne dL_law__785 (fun ec => ?_) (fun ec => ?_)
  · refine R_goto dL_law__800 ?_
    exact Run.le (by omega) (by omega) (LK _ _ _ ix9)
  · have o8 := o9 ec
    refine aL3 dL_law__788 ?_
    refine R_iconst_0 dL_law__789 ?_
    refine R_lald dL_law__790 G.2.2 (Int.le_refl 0) (by decide) ?_
    rw [show h2 300 (0 : Int).toNat = r from o8]
    refine iL6 dL_law__791 ?_
    refine R_i2l dL_law__793 ?_
    refine R_lcmp dL_law__794 ?_
    rw [cmpL_self]
    refine R_if_eq dL_law__795 (fun _ => ?_) (fun e => absurd rfl e)
    refine R_goto dL_law__800 ?_
    exact Run.le (by omega) (by omega) (LK _ _ _ ix9)
theorem LC_10 {g : Gs} {h : Hc} {P : Po} {kc ks i : Nat} {a5 a6 : AV} (G : G9 g) (X9 : IX h) (hi : i + 6 ≤ g.2.2.1) (hl : g.2.2.1 ≤ 3072) (hz : ∀ i, in32 (g.2.2.2 i)) (k4 : 4 ≤ kc) (s24 : 24 ≤ ks) (LK : ∀ h' b5 b6, IX h' → Run 45 (kc - 4) (ks - 24) mL_law_ 2859 [vX 0, vR 0, vR 281, vR 300, vI (i : Int), b5, b6] [] g h' P) : Run 45 kc ks mL_law_ 803 [vX 0, vR 0, vR 281, vR 300, vI (i : Int), a5, a6] [] g h P := by
  obtain ⟨w, A, n, L, b, im, wi, f, I, J, K⟩ := X9
  refine aL1 dL_law__803 ?_
  refine sarg1 dL_law__804 dL_law__805 dL_law__807 dL_law__808 dL_law__809 hi hl ?_
  refine sarg2 dL_law__810 dL_law__811 dL_law__813 dL_law__814 dL_law__815 hi hl ?_
  refine sarg3 dL_law__816 dL_law__817 dL_law__819 dL_law__820 dL_law__821 hi hl ?_
  refine aL3 dL_law__822 ?_
  refine R_invHg (av := [vR 0, vI (g.2.2.2 (i + 1)), vI (g.2.2.2 (i + 2)), vI (g.2.2.2 (i + 3)), vR 300]) (st := []) rfl dL_law__823 kL_174 rfl (Nat.le_of_ble_eq_true rfl) (mc := 3) (ms := 18) (by omega) (by omega) (C_L_would G.1.o G.2.2 G.1.1 (AG_would G I J K (fun h1 c A9 => konG G.1.1 ?_)))
  refine iS5 dL_law__826 ?_
  refine aL2 dL_law__828 ?_
  refine sarg1 dL_law__829 dL_law__830 dL_law__832 dL_law__833 dL_law__834 hi hl ?_
  refine sarg2 dL_law__835 dL_law__836 dL_law__838 dL_law__839 dL_law__840 hi hl ?_
  refine sarg3 dL_law__841 dL_law__842 dL_law__844 dL_law__845 dL_law__846 hi hl ?_
  refine invV3 rfl dL_law__847 kL_176 G.2.1.o (Nat.le_of_ble_eq_true rfl) (Nat.zero_le _) (Nat.zero_le _) (A9 _ (fun h2 r ix9 t9 o9 => konI ?_))
  refine iS6 dL_law__850 ?_
  refine aL2 dL_law__852 ?_
  refine invV0 rfl dL_law__853 kL_146 G.2.1.o (Nat.le_of_ble_eq_true rfl) (Nat.zero_le _) (Nat.zero_le _) (C_X12_thrown (d := 44) (M := 281) G.2.1 (konI ?_))
  rw [t9]
  refine iL5 dL_law__856 ?_
  refine R_icmp_eq dL_law__858 (fun _ => ?_) (fun e => absurd rfl e)
  refine iL5 dL_law__863 ?_
  refine R_if_ne dL_law__865 (fun ec => ?_) (fun ec => ?_)
  · refine R_goto dL_law__880 ?_
    exact Run.le (by omega) (by omega) (LK _ _ _ ix9)
  · have o8 := o9 ec
    refine aL3 dL_law__868 ?_
    refine R_iconst_0 dL_law__869 ?_
    refine R_lald dL_law__870 G.2.2 (Int.le_refl 0) (by decide) ?_
    rw [show h2 300 (0 : Int).toNat = r from o8]
    refine iL6 dL_law__871 ?_
    refine R_i2l dL_law__873 ?_
    refine R_lcmp dL_law__874 ?_
    rw [cmpL_self]
    refine R_if_eq dL_law__875 (fun _ => ?_) (fun e => absurd rfl e)
    refine R_goto dL_law__880 ?_
    exact Run.le (by omega) (by omega) (LK _ _ _ ix9)
theorem LC_11 {g : Gs} {h : Hc} {P : Po} {kc ks i : Nat} {a5 a6 : AV} (G : G9 g) (X9 : IX h) (hi : i + 6 ≤ g.2.2.1) (hl : g.2.2.1 ≤ 3072) (hz : ∀ i, in32 (g.2.2.2 i)) (k4 : 4 ≤ kc) (s24 : 24 ≤ ks) (LK : ∀ h' b5 b6, IX h' → Run 45 (kc - 4) (ks - 24) mL_law_ 2859 [vX 0, vR 0, vR 281, vR 300, vI (i : Int), b5, b6] [] g h' P) : Run 45 kc ks mL_law_ 883 [vX 0, vR 0, vR 281, vR 300, vI (i : Int), a5, a6] [] g h P := by
  obtain ⟨w, A, n, L, b, im, wi, f, I, J, K⟩ := X9
  refine aL1 dL_law__883 ?_
  refine sarg1 dL_law__884 dL_law__885 dL_law__887 dL_law__888 dL_law__889 hi hl ?_
  refine aL3 dL_law__890 ?_
  refine R_invHg (av := [vR 0, vI (g.2.2.2 (i + 1)), vR 300]) (st := []) rfl dL_law__891 kL_177 rfl (Nat.le_of_ble_eq_true rfl) (mc := 1) (ms := 6) (by omega) (by omega) (C_L_hours G.1.o G.2.2 G.1.1 (AG_hours G I J K (fun h1 c A9 => konG G.1.1 ?_)))
  refine iS5 dL_law__894 ?_
  refine aL2 dL_law__896 ?_
  refine sarg1 dL_law__897 dL_law__898 dL_law__900 dL_law__901 dL_law__902 hi hl ?_
  refine invV1 rfl dL_law__903 kL_179 G.2.1.o (Nat.le_of_ble_eq_true rfl) (Nat.zero_le _) (Nat.zero_le _) (A9 _ (fun h2 r ix9 t9 o9 => konI ?_))
  refine iS6 dL_law__906 ?_
  refine aL2 dL_law__908 ?_
  refine invV0 rfl dL_law__909 kL_146 G.2.1.o (Nat.le_of_ble_eq_true rfl) (Nat.zero_le _) (Nat.zero_le _) (C_X12_thrown (d := 44) (M := 281) G.2.1 (konI ?_))
  rw [t9]
  refine iL5 dL_law__912 ?_
  refine R_icmp_eq dL_law__914 (fun _ => ?_) (fun e => absurd rfl e)
  refine iL5 dL_law__919 ?_
  refine R_if_ne dL_law__921 (fun ec => ?_) (fun ec => ?_)
  · refine R_goto dL_law__936 ?_
    exact Run.le (by omega) (by omega) (LK _ _ _ ix9)
  · have o8 := o9 ec
    refine aL3 dL_law__924 ?_
    refine R_iconst_0 dL_law__925 ?_
    refine R_lald dL_law__926 G.2.2 (Int.le_refl 0) (by decide) ?_
    rw [show h2 300 (0 : Int).toNat = r from o8]
    refine iL6 dL_law__927 ?_
    refine R_i2l dL_law__929 ?_
    refine R_lcmp dL_law__930 ?_
    rw [cmpL_self]
    refine R_if_eq dL_law__931 (fun _ => ?_) (fun e => absurd rfl e)
    refine R_goto dL_law__936 ?_
    exact Run.le (by omega) (by omega) (LK _ _ _ ix9)
theorem LC_12 {g : Gs} {h : Hc} {P : Po} {kc ks i : Nat} {a5 a6 : AV} (G : G9 g) (X9 : IX h) (hi : i + 6 ≤ g.2.2.1) (hl : g.2.2.1 ≤ 3072) (hz : ∀ i, in32 (g.2.2.2 i)) (k4 : 4 ≤ kc) (s24 : 24 ≤ ks) (LK : ∀ h' b5 b6, IX h' → Run 45 (kc - 4) (ks - 24) mL_law_ 2859 [vX 0, vR 0, vR 281, vR 300, vI (i : Int), b5, b6] [] g h' P) : Run 45 kc ks mL_law_ 939 [vX 0, vR 0, vR 281, vR 300, vI (i : Int), a5, a6] [] g h P := by
  obtain ⟨w, A, n, L, b, im, wi, f, I, J, K⟩ := X9
  refine aL1 dL_law__939 ?_
  refine sarg1 dL_law__940 dL_law__941 dL_law__943 dL_law__944 dL_law__945 hi hl ?_
  refine sarg2 dL_law__946 dL_law__947 dL_law__949 dL_law__950 dL_law__951 hi hl ?_
  refine sarg3 dL_law__952 dL_law__953 dL_law__955 dL_law__956 dL_law__957 hi hl ?_
  refine aL3 dL_law__958 ?_
  refine R_invHg (av := [vR 0, vI (g.2.2.2 (i + 1)), vI (g.2.2.2 (i + 2)), vI (g.2.2.2 (i + 3)), vR 300]) (st := []) rfl dL_law__959 kL_180 rfl (Nat.le_of_ble_eq_true rfl) (mc := 4) (ms := 24) (by omega) (by omega) (C_L_list G.1.o G.2.2 G.1.1 (AG_list G I J K (fun h1 c A9 => konG G.1.1 ?_)))
  refine iS5 dL_law__962 ?_
  refine aL2 dL_law__964 ?_
  refine sarg1 dL_law__965 dL_law__966 dL_law__968 dL_law__969 dL_law__970 hi hl ?_
  refine sarg2 dL_law__971 dL_law__972 dL_law__974 dL_law__975 dL_law__976 hi hl ?_
  refine sarg3 dL_law__977 dL_law__978 dL_law__980 dL_law__981 dL_law__982 hi hl ?_
  refine invV3 rfl dL_law__983 kL_182 G.2.1.o (Nat.le_of_ble_eq_true rfl) (Nat.zero_le _) (Nat.zero_le _) (A9 _ (fun h2 r ix9 t9 o9 => konI ?_))
  refine iS6 dL_law__986 ?_
  refine aL2 dL_law__988 ?_
  refine invV0 rfl dL_law__989 kL_146 G.2.1.o (Nat.le_of_ble_eq_true rfl) (Nat.zero_le _) (Nat.zero_le _) (C_X12_thrown (d := 44) (M := 281) G.2.1 (konI ?_))
  rw [t9]
  refine iL5 dL_law__992 ?_
  refine R_icmp_eq dL_law__994 (fun _ => ?_) (fun e => absurd rfl e)
  refine iL5 dL_law__999 ?_
  refine R_if_ne dL_law__1001 (fun ec => ?_) (fun ec => ?_)
  · refine R_goto dL_law__1016 ?_
    exact Run.le (by omega) (by omega) (LK _ _ _ ix9)
  · have o8 := o9 ec
    refine aL3 dL_law__1004 ?_
    refine R_iconst_0 dL_law__1005 ?_
    refine R_lald dL_law__1006 G.2.2 (Int.le_refl 0) (by decide) ?_
    rw [show h2 300 (0 : Int).toNat = r from o8]
    refine iL6 dL_law__1007 ?_
    refine R_i2l dL_law__1009 ?_
    refine R_lcmp dL_law__1010 ?_
    rw [cmpL_self]
    refine R_if_eq dL_law__1011 (fun _ => ?_) (fun e => absurd rfl e)
    refine R_goto dL_law__1016 ?_
    exact Run.le (by omega) (by omega) (LK _ _ _ ix9)
theorem LC_13 {g : Gs} {h : Hc} {P : Po} {kc ks i : Nat} {a5 a6 : AV} (G : G9 g) (X9 : IX h) (hi : i + 6 ≤ g.2.2.1) (hl : g.2.2.1 ≤ 3072) (hz : ∀ i, in32 (g.2.2.2 i)) (k4 : 4 ≤ kc) (s24 : 24 ≤ ks) (LK : ∀ h' b5 b6, IX h' → Run 45 (kc - 4) (ks - 24) mL_law_ 2859 [vX 0, vR 0, vR 281, vR 300, vI (i : Int), b5, b6] [] g h' P) : Run 45 kc ks mL_law_ 1019 [vX 0, vR 0, vR 281, vR 300, vI (i : Int), a5, a6] [] g h P := by
  obtain ⟨w, A, n, L, b, im, wi, f, I, J, K⟩ := X9
  refine aL1 dL_law__1019 ?_
  refine sarg1 dL_law__1020 dL_law__1021 dL_law__1023 dL_law__1024 dL_law__1025 hi hl ?_
  refine sarg2 dL_law__1026 dL_law__1027 dL_law__1029 dL_law__1030 dL_law__1031 hi hl ?_
  refine aL3 dL_law__1032 ?_
  refine R_invHg (av := [vR 0, vI (g.2.2.2 (i + 1)), vI (g.2.2.2 (i + 2)), vR 300]) (st := []) rfl dL_law__1033 kL_183 rfl (Nat.le_of_ble_eq_true rfl) (mc := 3) (ms := 18) (by omega) (by omega) (C_L_strike G.1.o G.2.2 G.1.1 (AG_strike G I J K (fun h1 c A9 => konG G.1.1 ?_)))
  refine iS5 dL_law__1036 ?_
  refine aL2 dL_law__1038 ?_
  refine sarg1 dL_law__1039 dL_law__1040 dL_law__1042 dL_law__1043 dL_law__1044 hi hl ?_
  refine sarg2 dL_law__1045 dL_law__1046 dL_law__1048 dL_law__1049 dL_law__1050 hi hl ?_
  refine invV2 rfl dL_law__1051 kL_185 G.2.1.o (Nat.le_of_ble_eq_true rfl) (Nat.zero_le _) (Nat.zero_le _) (A9 _ (fun h2 r ix9 t9 o9 => konI ?_))
  refine iS6 dL_law__1054 ?_
  refine aL2 dL_law__1056 ?_
  refine invV0 rfl dL_law__1057 kL_146 G.2.1.o (Nat.le_of_ble_eq_true rfl) (Nat.zero_le _) (Nat.zero_le _) (C_X12_thrown (d := 44) (M := 281) G.2.1 (konI ?_))
  rw [t9]
  refine iL5 dL_law__1060 ?_
  refine R_icmp_eq dL_law__1062 (fun _ => ?_) (fun e => absurd rfl e)
  refine iL5 dL_law__1067 ?_
  refine R_if_ne dL_law__1069 (fun ec => ?_) (fun ec => ?_)
  · refine R_goto dL_law__1084 ?_
    exact Run.le (by omega) (by omega) (LK _ _ _ ix9)
  · have o8 := o9 ec
    refine aL3 dL_law__1072 ?_
    refine R_iconst_0 dL_law__1073 ?_
    refine R_lald dL_law__1074 G.2.2 (Int.le_refl 0) (by decide) ?_
    rw [show h2 300 (0 : Int).toNat = r from o8]
    refine iL6 dL_law__1075 ?_
    refine R_i2l dL_law__1077 ?_
    refine R_lcmp dL_law__1078 ?_
    rw [cmpL_self]
    refine R_if_eq dL_law__1079 (fun _ => ?_) (fun e => absurd rfl e)
    refine R_goto dL_law__1084 ?_
    exact Run.le (by omega) (by omega) (LK _ _ _ ix9)
theorem LC_14 {g : Gs} {h : Hc} {P : Po} {kc ks i : Nat} {a5 a6 : AV} (G : G9 g) (X9 : IX h) (hi : i + 6 ≤ g.2.2.1) (hl : g.2.2.1 ≤ 3072) (hz : ∀ i, in32 (g.2.2.2 i)) (k4 : 4 ≤ kc) (s24 : 24 ≤ ks) (LK : ∀ h' b5 b6, IX h' → Run 45 (kc - 4) (ks - 24) mL_law_ 2859 [vX 0, vR 0, vR 281, vR 300, vI (i : Int), b5, b6] [] g h' P) : Run 45 kc ks mL_law_ 1087 [vX 0, vR 0, vR 281, vR 300, vI (i : Int), a5, a6] [] g h P := by
  obtain ⟨w, A, n, L, b, im, wi, f, I, J, K⟩ := X9
  refine aL1 dL_law__1087 ?_
  refine sarg1 dL_law__1088 dL_law__1089 dL_law__1091 dL_law__1092 dL_law__1093 hi hl ?_
  refine aL3 dL_law__1094 ?_
  refine R_invHg (av := [vR 0, vI (g.2.2.2 (i + 1)), vR 300]) (st := []) rfl dL_law__1095 kL_186 rfl (Nat.le_of_ble_eq_true rfl) (mc := 1) (ms := 6) (by omega) (by omega) (C_L_feeds G.1.o G.2.2 G.1.1 (AG_feeds G I J K (fun h1 c A9 => konG G.1.1 ?_)))
  refine iS5 dL_law__1098 ?_
  refine aL2 dL_law__1100 ?_
  refine sarg1 dL_law__1101 dL_law__1102 dL_law__1104 dL_law__1105 dL_law__1106 hi hl ?_
  refine invV1 rfl dL_law__1107 kL_188 G.2.1.o (Nat.le_of_ble_eq_true rfl) (Nat.zero_le _) (Nat.zero_le _) (A9 _ (fun h2 r ix9 t9 o9 => konI ?_))
  refine iS6 dL_law__1110 ?_
  refine aL2 dL_law__1112 ?_
  refine invV0 rfl dL_law__1113 kL_146 G.2.1.o (Nat.le_of_ble_eq_true rfl) (Nat.zero_le _) (Nat.zero_le _) (C_X12_thrown (d := 44) (M := 281) G.2.1 (konI ?_))
  rw [t9]
  refine iL5 dL_law__1116 ?_
  refine R_icmp_eq dL_law__1118 (fun _ => ?_) (fun e => absurd rfl e)
  refine iL5 dL_law__1123 ?_
  refine R_if_ne dL_law__1125 (fun ec => ?_) (fun ec => ?_)
  · refine R_goto dL_law__1140 ?_
    exact Run.le (by omega) (by omega) (LK _ _ _ ix9)
  · have o8 := o9 ec
    refine aL3 dL_law__1128 ?_
    refine R_iconst_0 dL_law__1129 ?_
    refine R_lald dL_law__1130 G.2.2 (Int.le_refl 0) (by decide) ?_
    rw [show h2 300 (0 : Int).toNat = r from o8]
    refine iL6 dL_law__1131 ?_
    refine R_i2l dL_law__1133 ?_
    refine R_lcmp dL_law__1134 ?_
    rw [cmpL_self]
    refine R_if_eq dL_law__1135 (fun _ => ?_) (fun e => absurd rfl e)
    refine R_goto dL_law__1140 ?_
    exact Run.le (by omega) (by omega) (LK _ _ _ ix9)
theorem LC_15 {g : Gs} {h : Hc} {P : Po} {kc ks i : Nat} {a5 a6 : AV} (G : G9 g) (X9 : IX h) (hi : i + 6 ≤ g.2.2.1) (hl : g.2.2.1 ≤ 3072) (hz : ∀ i, in32 (g.2.2.2 i)) (k4 : 4 ≤ kc) (s24 : 24 ≤ ks) (LK : ∀ h' b5 b6, IX h' → Run 45 (kc - 4) (ks - 24) mL_law_ 2859 [vX 0, vR 0, vR 281, vR 300, vI (i : Int), b5, b6] [] g h' P) : Run 45 kc ks mL_law_ 1143 [vX 0, vR 0, vR 281, vR 300, vI (i : Int), a5, a6] [] g h P := by
  obtain ⟨w, A, n, L, b, im, wi, f, I, J, K⟩ := X9
  refine aL1 dL_law__1143 ?_
  refine sarg1 dL_law__1144 dL_law__1145 dL_law__1147 dL_law__1148 dL_law__1149 hi hl ?_
  refine sarg2 dL_law__1150 dL_law__1151 dL_law__1153 dL_law__1154 dL_law__1155 hi hl ?_
  refine aL3 dL_law__1156 ?_
  refine R_invHg (av := [vR 0, vI (g.2.2.2 (i + 1)), vI (g.2.2.2 (i + 2)), vR 300]) (st := []) rfl dL_law__1157 kL_189 rfl (Nat.le_of_ble_eq_true rfl) (mc := 3) (ms := 18) (by omega) (by omega) (C_L_fast G.1.o G.2.2 G.1.1 (AG_fast G I J K (fun h1 c A9 => konG G.1.1 ?_)))
  refine iS5 dL_law__1160 ?_
  refine aL2 dL_law__1162 ?_
  refine sarg1 dL_law__1163 dL_law__1164 dL_law__1166 dL_law__1167 dL_law__1168 hi hl ?_
  refine sarg2 dL_law__1169 dL_law__1170 dL_law__1172 dL_law__1173 dL_law__1174 hi hl ?_
  refine invV2 rfl dL_law__1175 kL_191 G.2.1.o (Nat.le_of_ble_eq_true rfl) (Nat.zero_le _) (Nat.zero_le _) (A9 _ (fun h2 r ix9 t9 o9 => konI ?_))
  refine iS6 dL_law__1178 ?_
  refine aL2 dL_law__1180 ?_
  refine invV0 rfl dL_law__1181 kL_146 G.2.1.o (Nat.le_of_ble_eq_true rfl) (Nat.zero_le _) (Nat.zero_le _) (C_X12_thrown (d := 44) (M := 281) G.2.1 (konI ?_))
  rw [t9]
  refine iL5 dL_law__1184 ?_
  refine R_icmp_eq dL_law__1186 (fun _ => ?_) (fun e => absurd rfl e)
  refine iL5 dL_law__1191 ?_
  refine R_if_ne dL_law__1193 (fun ec => ?_) (fun ec => ?_)
  · refine R_goto dL_law__1208 ?_
    exact Run.le (by omega) (by omega) (LK _ _ _ ix9)
  · have o8 := o9 ec
    refine aL3 dL_law__1196 ?_
    refine R_iconst_0 dL_law__1197 ?_
    refine R_lald dL_law__1198 G.2.2 (Int.le_refl 0) (by decide) ?_
    rw [show h2 300 (0 : Int).toNat = r from o8]
    refine iL6 dL_law__1199 ?_
    refine R_i2l dL_law__1201 ?_
    refine R_lcmp dL_law__1202 ?_
    rw [cmpL_self]
    refine R_if_eq dL_law__1203 (fun _ => ?_) (fun e => absurd rfl e)
    refine R_goto dL_law__1208 ?_
    exact Run.le (by omega) (by omega) (LK _ _ _ ix9)
theorem LC_16 {g : Gs} {h : Hc} {P : Po} {kc ks i : Nat} {a5 a6 : AV} (G : G9 g) (X9 : IX h) (hi : i + 6 ≤ g.2.2.1) (hl : g.2.2.1 ≤ 3072) (hz : ∀ i, in32 (g.2.2.2 i)) (k4 : 4 ≤ kc) (s24 : 24 ≤ ks) (LK : ∀ h' b5 b6, IX h' → Run 45 (kc - 4) (ks - 24) mL_law_ 2859 [vX 0, vR 0, vR 281, vR 300, vI (i : Int), b5, b6] [] g h' P) : Run 45 kc ks mL_law_ 1211 [vX 0, vR 0, vR 281, vR 300, vI (i : Int), a5, a6] [] g h P := by
  obtain ⟨w, A, n, L, b, im, wi, f, I, J, K⟩ := X9
  refine aL1 dL_law__1211 ?_
  refine sarg1 dL_law__1212 dL_law__1213 dL_law__1215 dL_law__1216 dL_law__1217 hi hl ?_
  refine sarg2 dL_law__1218 dL_law__1219 dL_law__1221 dL_law__1222 dL_law__1223 hi hl ?_
  refine aL3 dL_law__1224 ?_
  refine R_invHg (av := [vR 0, vI (g.2.2.2 (i + 1)), vI (g.2.2.2 (i + 2)), vR 300]) (st := []) rfl dL_law__1225 kL_192 rfl (Nat.le_of_ble_eq_true rfl) (mc := 2) (ms := 12) (by omega) (by omega) (C_L_inn G.1.o G.2.2 G.1.1 (AG_inn G I J K (fun h1 c A9 => konG G.1.1 ?_)))
  refine iS5 dL_law__1228 ?_
  refine aL2 dL_law__1230 ?_
  refine sarg1 dL_law__1231 dL_law__1232 dL_law__1234 dL_law__1235 dL_law__1236 hi hl ?_
  refine sarg2 dL_law__1237 dL_law__1238 dL_law__1240 dL_law__1241 dL_law__1242 hi hl ?_
  refine invV2 rfl dL_law__1243 kL_194 G.2.1.o (Nat.le_of_ble_eq_true rfl) (Nat.zero_le _) (Nat.zero_le _) (A9 _ (fun h2 r ix9 t9 o9 => konI ?_))
  refine iS6 dL_law__1246 ?_
  refine aL2 dL_law__1248 ?_
  refine invV0 rfl dL_law__1249 kL_146 G.2.1.o (Nat.le_of_ble_eq_true rfl) (Nat.zero_le _) (Nat.zero_le _) (C_X12_thrown (d := 44) (M := 281) G.2.1 (konI ?_))
  rw [t9]
  refine iL5 dL_law__1252 ?_
  refine R_icmp_eq dL_law__1254 (fun _ => ?_) (fun e => absurd rfl e)
  refine iL5 dL_law__1259 ?_
  refine R_if_ne dL_law__1261 (fun ec => ?_) (fun ec => ?_)
  · refine R_goto dL_law__1276 ?_
    exact Run.le (by omega) (by omega) (LK _ _ _ ix9)
  · have o8 := o9 ec
    refine aL3 dL_law__1264 ?_
    refine R_iconst_0 dL_law__1265 ?_
    refine R_lald dL_law__1266 G.2.2 (Int.le_refl 0) (by decide) ?_
    rw [show h2 300 (0 : Int).toNat = r from o8]
    refine iL6 dL_law__1267 ?_
    refine R_i2l dL_law__1269 ?_
    refine R_lcmp dL_law__1270 ?_
    rw [cmpL_self]
    refine R_if_eq dL_law__1271 (fun _ => ?_) (fun e => absurd rfl e)
    refine R_goto dL_law__1276 ?_
    exact Run.le (by omega) (by omega) (LK _ _ _ ix9)
theorem LC_17 {g : Gs} {h : Hc} {P : Po} {kc ks i : Nat} {a5 a6 : AV} (G : G9 g) (X9 : IX h) (hi : i + 6 ≤ g.2.2.1) (hl : g.2.2.1 ≤ 3072) (hz : ∀ i, in32 (g.2.2.2 i)) (k4 : 4 ≤ kc) (s24 : 24 ≤ ks) (LK : ∀ h' b5 b6, IX h' → Run 45 (kc - 4) (ks - 24) mL_law_ 2859 [vX 0, vR 0, vR 281, vR 300, vI (i : Int), b5, b6] [] g h' P) : Run 45 kc ks mL_law_ 1279 [vX 0, vR 0, vR 281, vR 300, vI (i : Int), a5, a6] [] g h P := by
  obtain ⟨w, A, n, L, b, im, wi, f, I, J, K⟩ := X9
  refine aL1 dL_law__1279 ?_
  refine sarg1 dL_law__1280 dL_law__1281 dL_law__1283 dL_law__1284 dL_law__1285 hi hl ?_
  refine aL3 dL_law__1286 ?_
  refine R_invHg (av := [vR 0, vI (g.2.2.2 (i + 1)), vR 300]) (st := []) rfl dL_law__1287 kL_195 rfl (Nat.le_of_ble_eq_true rfl) (mc := 2) (ms := 12) (by omega) (by omega) (C_L_appeal G.1.o G.2.2 G.1.1 (AG_appeal G I J K (fun h1 c A9 => konG G.1.1 ?_)))
  refine iS5 dL_law__1290 ?_
  refine aL2 dL_law__1292 ?_
  refine sarg1 dL_law__1293 dL_law__1294 dL_law__1296 dL_law__1297 dL_law__1298 hi hl ?_
  refine invV1 rfl dL_law__1299 kL_197 G.2.1.o (Nat.le_of_ble_eq_true rfl) (Nat.zero_le _) (Nat.zero_le _) (A9 _ (fun h2 r ix9 t9 o9 => konI ?_))
  refine iS6 dL_law__1302 ?_
  refine aL2 dL_law__1304 ?_
  refine invV0 rfl dL_law__1305 kL_146 G.2.1.o (Nat.le_of_ble_eq_true rfl) (Nat.zero_le _) (Nat.zero_le _) (C_X12_thrown (d := 44) (M := 281) G.2.1 (konI ?_))
  rw [t9]
  refine iL5 dL_law__1308 ?_
  refine R_icmp_eq dL_law__1310 (fun _ => ?_) (fun e => absurd rfl e)
  refine iL5 dL_law__1315 ?_
  refine R_if_ne dL_law__1317 (fun ec => ?_) (fun ec => ?_)
  · refine R_goto dL_law__1332 ?_
    exact Run.le (by omega) (by omega) (LK _ _ _ ix9)
  · have o8 := o9 ec
    refine aL3 dL_law__1320 ?_
    refine R_iconst_0 dL_law__1321 ?_
    refine R_lald dL_law__1322 G.2.2 (Int.le_refl 0) (by decide) ?_
    rw [show h2 300 (0 : Int).toNat = r from o8]
    refine iL6 dL_law__1323 ?_
    refine R_i2l dL_law__1325 ?_
    refine R_lcmp dL_law__1326 ?_
    rw [cmpL_self]
    refine R_if_eq dL_law__1327 (fun _ => ?_) (fun e => absurd rfl e)
    refine R_goto dL_law__1332 ?_
    exact Run.le (by omega) (by omega) (LK _ _ _ ix9)
theorem LC_18 {g : Gs} {h : Hc} {P : Po} {kc ks i : Nat} {a5 a6 : AV} (G : G9 g) (X9 : IX h) (hi : i + 6 ≤ g.2.2.1) (hl : g.2.2.1 ≤ 3072) (hz : ∀ i, in32 (g.2.2.2 i)) (k4 : 4 ≤ kc) (s24 : 24 ≤ ks) (LK : ∀ h' b5 b6, IX h' → Run 45 (kc - 4) (ks - 24) mL_law_ 2859 [vX 0, vR 0, vR 281, vR 300, vI (i : Int), b5, b6] [] g h' P) : Run 45 kc ks mL_law_ 1335 [vX 0, vR 0, vR 281, vR 300, vI (i : Int), a5, a6] [] g h P := by
  obtain ⟨w, A, n, L, b, im, wi, f, I, J, K⟩ := X9
  refine aL1 dL_law__1335 ?_
  refine sarg1 dL_law__1336 dL_law__1337 dL_law__1339 dL_law__1340 dL_law__1341 hi hl ?_
  refine sarg2 dL_law__1342 dL_law__1343 dL_law__1345 dL_law__1346 dL_law__1347 hi hl ?_
  refine aL3 dL_law__1348 ?_
  refine R_invHg (av := [vR 0, vI (g.2.2.2 (i + 1)), vI (g.2.2.2 (i + 2)), vR 300]) (st := []) rfl dL_law__1349 kL_198 rfl (Nat.le_of_ble_eq_true rfl) (mc := 2) (ms := 12) (by omega) (by omega) (C_L_grave G.1.o G.2.2 G.1.1 (AG_grave G I J K (fun h1 c A9 => konG G.1.1 ?_)))
  refine iS5 dL_law__1352 ?_
  refine aL2 dL_law__1354 ?_
  refine sarg1 dL_law__1355 dL_law__1356 dL_law__1358 dL_law__1359 dL_law__1360 hi hl ?_
  refine sarg2 dL_law__1361 dL_law__1362 dL_law__1364 dL_law__1365 dL_law__1366 hi hl ?_
  refine invV2 rfl dL_law__1367 kL_200 G.2.1.o (Nat.le_of_ble_eq_true rfl) (Nat.zero_le _) (Nat.zero_le _) (A9 _ (fun h2 r ix9 t9 o9 => konI ?_))
  refine iS6 dL_law__1370 ?_
  refine aL2 dL_law__1372 ?_
  refine invV0 rfl dL_law__1373 kL_146 G.2.1.o (Nat.le_of_ble_eq_true rfl) (Nat.zero_le _) (Nat.zero_le _) (C_X12_thrown (d := 44) (M := 281) G.2.1 (konI ?_))
  rw [t9]
  refine iL5 dL_law__1376 ?_
  refine R_icmp_eq dL_law__1378 (fun _ => ?_) (fun e => absurd rfl e)
  refine iL5 dL_law__1383 ?_
  refine R_if_ne dL_law__1385 (fun ec => ?_) (fun ec => ?_)
  · refine R_goto dL_law__1400 ?_
    exact Run.le (by omega) (by omega) (LK _ _ _ ix9)
  · have o8 := o9 ec
    refine aL3 dL_law__1388 ?_
    refine R_iconst_0 dL_law__1389 ?_
    refine R_lald dL_law__1390 G.2.2 (Int.le_refl 0) (by decide) ?_
    rw [show h2 300 (0 : Int).toNat = r from o8]
    refine iL6 dL_law__1391 ?_
    refine R_i2l dL_law__1393 ?_
    refine R_lcmp dL_law__1394 ?_
    rw [cmpL_self]
    refine R_if_eq dL_law__1395 (fun _ => ?_) (fun e => absurd rfl e)
    refine R_goto dL_law__1400 ?_
    exact Run.le (by omega) (by omega) (LK _ _ _ ix9)
theorem LC_19 {g : Gs} {h : Hc} {P : Po} {kc ks i : Nat} {a5 a6 : AV} (G : G9 g) (X9 : IX h) (hi : i + 6 ≤ g.2.2.1) (hl : g.2.2.1 ≤ 3072) (hz : ∀ i, in32 (g.2.2.2 i)) (k4 : 4 ≤ kc) (s24 : 24 ≤ ks) (LK : ∀ h' b5 b6, IX h' → Run 45 (kc - 4) (ks - 24) mL_law_ 2859 [vX 0, vR 0, vR 281, vR 300, vI (i : Int), b5, b6] [] g h' P) : Run 45 kc ks mL_law_ 1403 [vX 0, vR 0, vR 281, vR 300, vI (i : Int), a5, a6] [] g h P := by
  obtain ⟨w, A, n, L, b, im, wi, f, I, J, K⟩ := X9
  refine aL1 dL_law__1403 ?_
  refine sarg1 dL_law__1404 dL_law__1405 dL_law__1407 dL_law__1408 dL_law__1409 hi hl ?_
  refine sarg2 dL_law__1410 dL_law__1411 dL_law__1413 dL_law__1414 dL_law__1415 hi hl ?_
  refine aL3 dL_law__1416 ?_
  refine R_invHg (av := [vR 0, vI (g.2.2.2 (i + 1)), vI (g.2.2.2 (i + 2)), vR 300]) (st := []) rfl dL_law__1417 kL_201 rfl (Nat.le_of_ble_eq_true rfl) (mc := 2) (ms := 12) (by omega) (by omega) (C_L_early G.1.o G.2.2 G.1.1 (AG_early G I J K (fun h1 c A9 => konG G.1.1 ?_)))
  refine iS5 dL_law__1420 ?_
  refine aL2 dL_law__1422 ?_
  refine sarg1 dL_law__1423 dL_law__1424 dL_law__1426 dL_law__1427 dL_law__1428 hi hl ?_
  refine sarg2 dL_law__1429 dL_law__1430 dL_law__1432 dL_law__1433 dL_law__1434 hi hl ?_
  refine invV2 rfl dL_law__1435 kL_203 G.2.1.o (Nat.le_of_ble_eq_true rfl) (Nat.zero_le _) (Nat.zero_le _) (A9 _ (fun h2 r ix9 t9 o9 => konI ?_))
  refine iS6 dL_law__1438 ?_
  refine aL2 dL_law__1440 ?_
  refine invV0 rfl dL_law__1441 kL_146 G.2.1.o (Nat.le_of_ble_eq_true rfl) (Nat.zero_le _) (Nat.zero_le _) (C_X12_thrown (d := 44) (M := 281) G.2.1 (konI ?_))
  rw [t9]
  refine iL5 dL_law__1444 ?_
  refine R_icmp_eq dL_law__1446 (fun _ => ?_) (fun e => absurd rfl e)
  refine iL5 dL_law__1451 ?_
  refine R_if_ne dL_law__1453 (fun ec => ?_) (fun ec => ?_)
  · refine R_goto dL_law__1468 ?_
    exact Run.le (by omega) (by omega) (LK _ _ _ ix9)
  · have o8 := o9 ec
    refine aL3 dL_law__1456 ?_
    refine R_iconst_0 dL_law__1457 ?_
    refine R_lald dL_law__1458 G.2.2 (Int.le_refl 0) (by decide) ?_
    rw [show h2 300 (0 : Int).toNat = r from o8]
    refine iL6 dL_law__1459 ?_
    refine R_i2l dL_law__1461 ?_
    refine R_lcmp dL_law__1462 ?_
    rw [cmpL_self]
    refine R_if_eq dL_law__1463 (fun _ => ?_) (fun e => absurd rfl e)
    refine R_goto dL_law__1468 ?_
    exact Run.le (by omega) (by omega) (LK _ _ _ ix9)
theorem LC_20 {g : Gs} {h : Hc} {P : Po} {kc ks i : Nat} {a5 a6 : AV} (G : G9 g) (X9 : IX h) (hi : i + 6 ≤ g.2.2.1) (hl : g.2.2.1 ≤ 3072) (hz : ∀ i, in32 (g.2.2.2 i)) (k4 : 4 ≤ kc) (s24 : 24 ≤ ks) (LK : ∀ h' b5 b6, IX h' → Run 45 (kc - 4) (ks - 24) mL_law_ 2859 [vX 0, vR 0, vR 281, vR 300, vI (i : Int), b5, b6] [] g h' P) : Run 45 kc ks mL_law_ 1471 [vX 0, vR 0, vR 281, vR 300, vI (i : Int), a5, a6] [] g h P := by
  obtain ⟨w, A, n, L, b, im, wi, f, I, J, K⟩ := X9
  refine aL1 dL_law__1471 ?_
  refine sarg1 dL_law__1472 dL_law__1473 dL_law__1475 dL_law__1476 dL_law__1477 hi hl ?_
  refine aL3 dL_law__1478 ?_
  refine R_invHg (av := [vR 0, vI (g.2.2.2 (i + 1)), vR 300]) (st := []) rfl dL_law__1479 kL_204 rfl (Nat.le_of_ble_eq_true rfl) (mc := 1) (ms := 6) (by omega) (by omega) (C_L_split G.1.o G.2.2 G.1.1 (AG_splitZ G I J K (fun h1 c A9 => konG G.1.1 ?_)))
  refine iS5 dL_law__1482 ?_
  refine aL2 dL_law__1484 ?_
  refine sarg1 dL_law__1485 dL_law__1486 dL_law__1488 dL_law__1489 dL_law__1490 hi hl ?_
  refine invV1 rfl dL_law__1491 kL_206 G.2.1.o (Nat.le_of_ble_eq_true rfl) (Nat.zero_le _) (Nat.zero_le _) (A9 _ (fun h2 r ix9 t9 o9 z9 => konI ?_))
  refine iS6 dL_law__1494 ?_
  refine aL2 dL_law__1496 ?_
  refine invV0 rfl dL_law__1497 kL_146 G.2.1.o (Nat.le_of_ble_eq_true rfl) (Nat.zero_le _) (Nat.zero_le _) (C_X12_thrown (d := 44) (M := 281) G.2.1 (konI ?_))
  rw [t9]
  refine iL5 dL_law__1500 ?_
  refine R_icmp_eq dL_law__1502 (fun _ => ?_) (fun e => absurd rfl e)
  refine iL5 dL_law__1507 ?_
  refine R_if_ne dL_law__1509 (fun ec => ?_) (fun ec => ?_)
  · refine R_goto dL_law__1531 ?_
    exact Run.le (by omega) (by omega) (LK _ _ _ ix9)
  · have o8 := o9 ec
    refine aL3 dL_law__1512 ?_
    refine R_iconst_0 dL_law__1513 ?_
    refine R_lald dL_law__1514 G.2.2 (Int.le_refl 0) (by decide) ?_
    rw [show h2 300 (0 : Int).toNat = r from o8]
    refine iL6 dL_law__1515 ?_
    refine R_if_eq dL_law__1517 (fun e => ?_) (fun e => ?_)
    · refine R_lconst_0 dL_law__1524 ?_
      obtain rfl := e
      refine R_lcmp dL_law__1525 ?_
      rw [cmpL_self]
      refine R_if_eq dL_law__1526 (fun _ => ?_) (fun e => absurd rfl e)
      refine R_goto dL_law__1531 ?_
      exact Run.le (by omega) (by omega) (LK _ _ _ ix9)
    · refine R_lconst_1 dL_law__1520 ?_
      obtain rfl : r = 1 := z9.resolve_left e
      refine R_goto dL_law__1521 ?_
      refine R_lcmp dL_law__1525 ?_
      rw [cmpL_self]
      refine R_if_eq dL_law__1526 (fun _ => ?_) (fun e => absurd rfl e)
      refine R_goto dL_law__1531 ?_
      exact Run.le (by omega) (by omega) (LK _ _ _ ix9)
theorem LC_21 {g : Gs} {h : Hc} {P : Po} {kc ks i : Nat} {a5 a6 : AV} (G : G9 g) (X9 : IX h) (hi : i + 6 ≤ g.2.2.1) (hl : g.2.2.1 ≤ 3072) (hz : ∀ i, in32 (g.2.2.2 i)) (k4 : 4 ≤ kc) (s24 : 24 ≤ ks) (LK : ∀ h' b5 b6, IX h' → Run 45 (kc - 4) (ks - 24) mL_law_ 2859 [vX 0, vR 0, vR 281, vR 300, vI (i : Int), b5, b6] [] g h' P) : Run 45 kc ks mL_law_ 1534 [vX 0, vR 0, vR 281, vR 300, vI (i : Int), a5, a6] [] g h P := by
  obtain ⟨w, A, n, L, b, im, wi, f, I, J, K⟩ := X9
  refine aL1 dL_law__1534 ?_
  refine sarg1 dL_law__1535 dL_law__1536 dL_law__1538 dL_law__1539 dL_law__1540 hi hl ?_
  refine R_if_eq dL_law__1541 (fun e1 => ?_) (fun e1 => ?_)
  · refine R_iconst_0 dL_law__1548 ?_
    refine invV1 rfl dL_law__1549 kL_207 G.1.o (Nat.le_of_ble_eq_true rfl) (Nat.zero_le _) (Nat.zero_le _) (AG_saved (b9 := false) G I J K (fun h1 v A9 => konG G.1.1 ?_))
    refine aL2 dL_law__1552 ?_
    refine sarg1 dL_law__1553 dL_law__1554 dL_law__1556 dL_law__1557 dL_law__1558 hi hl ?_
    refine R_if_eq dL_law__1559 (fun q => ?_) (fun q => ?_)
    · refine R_iconst_0 dL_law__1566 ?_
      refine invV1 rfl dL_law__1567 kL_211 G.2.1.o (Nat.le_of_ble_eq_true rfl) (Nat.zero_le _) (Nat.zero_le _) (A9 _ (fun h2 ix9 => konI ?_))
      exact R_icmp_eq dL_law__1570 (fun _ => Run.le (by omega) (by omega) (LK _ _ _ ix9)) (fun e => absurd rfl e)
    · exact absurd e1 q
  · refine R_iconst_1 dL_law__1544 ?_
    refine R_goto dL_law__1545 ?_
    refine invV1 rfl dL_law__1549 kL_207 G.1.o (Nat.le_of_ble_eq_true rfl) (Nat.zero_le _) (Nat.zero_le _) (AG_saved (b9 := true) G I J K (fun h1 v A9 => konG G.1.1 ?_))
    refine aL2 dL_law__1552 ?_
    refine sarg1 dL_law__1553 dL_law__1554 dL_law__1556 dL_law__1557 dL_law__1558 hi hl ?_
    refine R_if_eq dL_law__1559 (fun q => ?_) (fun q => ?_)
    · exact absurd q e1
    · refine R_iconst_1 dL_law__1562 ?_
      refine R_goto dL_law__1563 ?_
      refine invV1 rfl dL_law__1567 kL_211 G.2.1.o (Nat.le_of_ble_eq_true rfl) (Nat.zero_le _) (Nat.zero_le _) (A9 _ (fun h2 ix9 => konI ?_))
      exact R_icmp_eq dL_law__1570 (fun _ => Run.le (by omega) (by omega) (LK _ _ _ ix9)) (fun e => absurd rfl e)
theorem LC_22 {g : Gs} {h : Hc} {P : Po} {kc ks i : Nat} {a5 a6 : AV} (G : G9 g) (X9 : IX h) (hi : i + 6 ≤ g.2.2.1) (hl : g.2.2.1 ≤ 3072) (hz : ∀ i, in32 (g.2.2.2 i)) (k4 : 4 ≤ kc) (s24 : 24 ≤ ks) (LK : ∀ h' b5 b6, IX h' → Run 45 (kc - 4) (ks - 24) mL_law_ 2859 [vX 0, vR 0, vR 281, vR 300, vI (i : Int), b5, b6] [] g h' P) : Run 45 kc ks mL_law_ 1575 [vX 0, vR 0, vR 281, vR 300, vI (i : Int), a5, a6] [] g h P := by
  obtain ⟨w, A, n, L, b, im, wi, f, I, J, K⟩ := X9
  refine aL1 dL_law__1575 ?_
  refine invV0 rfl dL_law__1576 kL_212 G.1.o (Nat.le_of_ble_eq_true rfl) (Nat.zero_le _) (Nat.zero_le _) (AG_needed G I J K (fun h1 v A9 => konG G.1.1 ?_))
  refine aL2 dL_law__1579 ?_
  refine invV0 rfl dL_law__1580 kL_215 G.2.1.o (Nat.le_of_ble_eq_true rfl) (Nat.zero_le _) (Nat.zero_le _) (A9 _ (fun h2 ix9 => konI ?_))
  exact R_icmp_eq dL_law__1583 (fun _ => Run.le (by omega) (by omega) (LK _ _ _ ix9)) (fun e => absurd rfl e)
theorem LC_23 {g : Gs} {h : Hc} {P : Po} {kc ks i : Nat} {a5 a6 : AV} (G : G9 g) (X9 : IX h) (hi : i + 6 ≤ g.2.2.1) (hl : g.2.2.1 ≤ 3072) (hz : ∀ i, in32 (g.2.2.2 i)) (k4 : 4 ≤ kc) (s24 : 24 ≤ ks) (LK : ∀ h' b5 b6, IX h' → Run 45 (kc - 4) (ks - 24) mL_law_ 2859 [vX 0, vR 0, vR 281, vR 300, vI (i : Int), b5, b6] [] g h' P) : Run 45 kc ks mL_law_ 1588 [vX 0, vR 0, vR 281, vR 300, vI (i : Int), a5, a6] [] g h P := by
  obtain ⟨w, A, n, L, b, im, wi, f, I, J, K⟩ := X9
  refine aL1 dL_law__1588 ?_
  refine sarg1 dL_law__1589 dL_law__1590 dL_law__1592 dL_law__1593 dL_law__1594 hi hl ?_
  refine aL3 dL_law__1595 ?_
  refine R_invHg (av := [vR 0, vI (g.2.2.2 (i + 1)), vR 300]) (st := []) rfl dL_law__1596 kL_216 rfl (Nat.le_of_ble_eq_true rfl) (mc := 1) (ms := 6) (by omega) (by omega) (C_L_crumbles G.1.o G.2.2 G.1.1 (AG_crumbles G I J K (fun h1 c A9 => konG G.1.1 ?_)))
  refine iS5 dL_law__1599 ?_
  refine aL2 dL_law__1601 ?_
  refine sarg1 dL_law__1602 dL_law__1603 dL_law__1605 dL_law__1606 dL_law__1607 hi hl ?_
  refine invV1 rfl dL_law__1608 kL_218 G.2.1.o (Nat.le_of_ble_eq_true rfl) (Nat.zero_le _) (Nat.zero_le _) (A9 _ (fun h2 r ix9 t9 o9 => konI ?_))
  refine iS6 dL_law__1611 ?_
  refine aL2 dL_law__1613 ?_
  refine invV0 rfl dL_law__1614 kL_146 G.2.1.o (Nat.le_of_ble_eq_true rfl) (Nat.zero_le _) (Nat.zero_le _) (C_X12_thrown (d := 44) (M := 281) G.2.1 (konI ?_))
  rw [t9]
  refine iL5 dL_law__1617 ?_
  refine R_icmp_eq dL_law__1619 (fun _ => ?_) (fun e => absurd rfl e)
  refine iL5 dL_law__1624 ?_
  refine R_if_ne dL_law__1626 (fun ec => ?_) (fun ec => ?_)
  · refine R_goto dL_law__1641 ?_
    exact Run.le (by omega) (by omega) (LK _ _ _ ix9)
  · have o8 := o9 ec
    refine aL3 dL_law__1629 ?_
    refine R_iconst_0 dL_law__1630 ?_
    refine R_lald dL_law__1631 G.2.2 (Int.le_refl 0) (by decide) ?_
    rw [show h2 300 (0 : Int).toNat = r from o8]
    refine iL6 dL_law__1632 ?_
    refine R_i2l dL_law__1634 ?_
    refine R_lcmp dL_law__1635 ?_
    rw [cmpL_self]
    refine R_if_eq dL_law__1636 (fun _ => ?_) (fun e => absurd rfl e)
    refine R_goto dL_law__1641 ?_
    exact Run.le (by omega) (by omega) (LK _ _ _ ix9)
theorem LC_24 {g : Gs} {h : Hc} {P : Po} {kc ks i : Nat} {a5 a6 : AV} (G : G9 g) (X9 : IX h) (hi : i + 6 ≤ g.2.2.1) (hl : g.2.2.1 ≤ 3072) (hz : ∀ i, in32 (g.2.2.2 i)) (k4 : 4 ≤ kc) (s24 : 24 ≤ ks) (LK : ∀ h' b5 b6, IX h' → Run 45 (kc - 4) (ks - 24) mL_law_ 2859 [vX 0, vR 0, vR 281, vR 300, vI (i : Int), b5, b6] [] g h' P) : Run 45 kc ks mL_law_ 1644 [vX 0, vR 0, vR 281, vR 300, vI (i : Int), a5, a6] [] g h P := by
  obtain ⟨w, A, n, L, b, im, wi, f, I, J, K⟩ := X9
  refine aL1 dL_law__1644 ?_
  refine invV0 rfl dL_law__1645 kL_219 G.1.o (Nat.le_of_ble_eq_true rfl) (Nat.zero_le _) (Nat.zero_le _) (AG_worst G I J K (fun h1 v A9 => konG G.1.1 ?_))
  refine aL2 dL_law__1648 ?_
  refine invV0 rfl dL_law__1649 kL_222 G.2.1.o (Nat.le_of_ble_eq_true rfl) (Nat.zero_le _) (Nat.zero_le _) (A9 _ (fun h2 ix9 => konI ?_))
  exact R_icmp_eq dL_law__1652 (fun _ => Run.le (by omega) (by omega) (LK _ _ _ ix9)) (fun e => absurd rfl e)
theorem LC_25 {g : Gs} {h : Hc} {P : Po} {kc ks i : Nat} {a5 a6 : AV} (G : G9 g) (X9 : IX h) (hi : i + 6 ≤ g.2.2.1) (hl : g.2.2.1 ≤ 3072) (hz : ∀ i, in32 (g.2.2.2 i)) (k4 : 4 ≤ kc) (s24 : 24 ≤ ks) (LK : ∀ h' b5 b6, IX h' → Run 45 (kc - 4) (ks - 24) mL_law_ 2859 [vX 0, vR 0, vR 281, vR 300, vI (i : Int), b5, b6] [] g h' P) : Run 45 kc ks mL_law_ 1657 [vX 0, vR 0, vR 281, vR 300, vI (i : Int), a5, a6] [] g h P := by
  obtain ⟨w, A, n, L, b, im, wi, f, I, J, K⟩ := X9
  refine aL1 dL_law__1657 ?_
  refine invV0 rfl dL_law__1658 kL_223 G.1.o (Nat.le_of_ble_eq_true rfl) (Nat.zero_le _) (Nat.zero_le _) (AG_deep G I J K (fun h1 v A9 => konG G.1.1 ?_))
  refine aL2 dL_law__1661 ?_
  refine invV0 rfl dL_law__1662 kL_226 G.2.1.o (Nat.le_of_ble_eq_true rfl) (Nat.zero_le _) (Nat.zero_le _) (A9 _ (fun h2 ix9 => konI ?_))
  exact R_icmp_eq dL_law__1665 (fun _ => Run.le (by omega) (by omega) (LK _ _ _ ix9)) (fun e => absurd rfl e)
theorem LC_26 {g : Gs} {h : Hc} {P : Po} {kc ks i : Nat} {a5 a6 : AV} (G : G9 g) (X9 : IX h) (hi : i + 6 ≤ g.2.2.1) (hl : g.2.2.1 ≤ 3072) (hz : ∀ i, in32 (g.2.2.2 i)) (k4 : 4 ≤ kc) (s24 : 24 ≤ ks) (LK : ∀ h' b5 b6, IX h' → Run 45 (kc - 4) (ks - 24) mL_law_ 2859 [vX 0, vR 0, vR 281, vR 300, vI (i : Int), b5, b6] [] g h' P) : Run 45 kc ks mL_law_ 1670 [vX 0, vR 0, vR 281, vR 300, vI (i : Int), a5, a6] [] g h P := by
  obtain ⟨w, A, n, L, b, im, wi, f, I, J, K⟩ := X9
  refine aL1 dL_law__1670 ?_
  refine invV0 rfl dL_law__1671 kL_227 G.1.o (Nat.le_of_ble_eq_true rfl) (Nat.zero_le _) (Nat.zero_le _) (AG_roots G I J K (fun h1 v A9 => konG G.1.1 ?_))
  refine aL2 dL_law__1674 ?_
  refine invV0 rfl dL_law__1675 kL_230 G.2.1.o (Nat.le_of_ble_eq_true rfl) (Nat.zero_le _) (Nat.zero_le _) (A9 _ (fun h2 ix9 => konI ?_))
  exact R_icmp_eq dL_law__1678 (fun _ => Run.le (by omega) (by omega) (LK _ _ _ ix9)) (fun e => absurd rfl e)
theorem LC_27 {g : Gs} {h : Hc} {P : Po} {kc ks i : Nat} {a5 a6 : AV} (G : G9 g) (X9 : IX h) (hi : i + 6 ≤ g.2.2.1) (hl : g.2.2.1 ≤ 3072) (hz : ∀ i, in32 (g.2.2.2 i)) (k4 : 4 ≤ kc) (s24 : 24 ≤ ks) (LK : ∀ h' b5 b6, IX h' → Run 45 (kc - 4) (ks - 24) mL_law_ 2859 [vX 0, vR 0, vR 281, vR 300, vI (i : Int), b5, b6] [] g h' P) : Run 45 kc ks mL_law_ 1683 [vX 0, vR 0, vR 281, vR 300, vI (i : Int), a5, a6] [] g h P := by
  obtain ⟨w, A, n, L, b, im, wi, f, I, J, K⟩ := X9
  refine aL1 dL_law__1683 ?_
  refine sarg1 dL_law__1684 dL_law__1685 dL_law__1687 dL_law__1688 dL_law__1689 hi hl ?_
  refine sarg2 dL_law__1690 dL_law__1691 dL_law__1693 dL_law__1694 dL_law__1695 hi hl ?_
  refine R_if_eq dL_law__1696 (fun e2 => ?_) (fun e2 => ?_)
  · refine R_iconst_0 dL_law__1703 ?_
    refine aL3 dL_law__1704 ?_
    refine R_invHg (av := [vR 0, vI (g.2.2.2 (i + 1)), vI 0, vR 300]) (st := []) rfl dL_law__1705 kL_231 rfl (Nat.le_of_ble_eq_true rfl) (mc := 2) (ms := 12) (by omega) (by omega) (C_L_meals G.1.o G.2.2 G.1.1 (AG_meals (b9 := false) G I J K (fun h1 c A9 => konG G.1.1 ?_)))
    refine iS5 dL_law__1708 ?_
    refine aL2 dL_law__1710 ?_
    refine sarg1 dL_law__1711 dL_law__1712 dL_law__1714 dL_law__1715 dL_law__1716 hi hl ?_
    refine sarg2 dL_law__1717 dL_law__1718 dL_law__1720 dL_law__1721 dL_law__1722 hi hl ?_
    refine R_if_eq dL_law__1723 (fun q => ?_) (fun q => ?_)
    · refine R_iconst_0 dL_law__1730 ?_
      refine invV2 rfl dL_law__1731 kL_234 G.2.1.o (Nat.le_of_ble_eq_true rfl) (Nat.zero_le _) (Nat.zero_le _) (A9 _ (fun h2 r ix9 t9 o9 => konI ?_))
      refine iS6 dL_law__1734 ?_
      refine aL2 dL_law__1736 ?_
      refine invV0 rfl dL_law__1737 kL_146 G.2.1.o (Nat.le_of_ble_eq_true rfl) (Nat.zero_le _) (Nat.zero_le _) (C_X12_thrown (d := 44) (M := 281) G.2.1 (konI ?_))
      rw [t9]
      refine iL5 dL_law__1740 ?_
      refine R_icmp_eq dL_law__1742 (fun _ => ?_) (fun e => absurd rfl e)
      refine iL5 dL_law__1747 ?_
      refine R_if_ne dL_law__1749 (fun ec => ?_) (fun ec => ?_)
      · refine R_goto dL_law__1764 ?_
        exact Run.le (by omega) (by omega) (LK _ _ _ ix9)
      · have o8 := o9 ec
        refine aL3 dL_law__1752 ?_
        refine R_iconst_0 dL_law__1753 ?_
        refine R_lald dL_law__1754 G.2.2 (Int.le_refl 0) (by decide) ?_
        rw [show h2 300 (0 : Int).toNat = r from o8]
        refine iL6 dL_law__1755 ?_
        refine R_i2l dL_law__1757 ?_
        refine R_lcmp dL_law__1758 ?_
        rw [cmpL_self]
        refine R_if_eq dL_law__1759 (fun _ => ?_) (fun e => absurd rfl e)
        refine R_goto dL_law__1764 ?_
        exact Run.le (by omega) (by omega) (LK _ _ _ ix9)
    · exact absurd e2 q
  · refine R_iconst_1 dL_law__1699 ?_
    refine R_goto dL_law__1700 ?_
    refine aL3 dL_law__1704 ?_
    refine R_invHg (av := [vR 0, vI (g.2.2.2 (i + 1)), vI 1, vR 300]) (st := []) rfl dL_law__1705 kL_231 rfl (Nat.le_of_ble_eq_true rfl) (mc := 2) (ms := 12) (by omega) (by omega) (C_L_meals G.1.o G.2.2 G.1.1 (AG_meals (b9 := true) G I J K (fun h1 c A9 => konG G.1.1 ?_)))
    refine iS5 dL_law__1708 ?_
    refine aL2 dL_law__1710 ?_
    refine sarg1 dL_law__1711 dL_law__1712 dL_law__1714 dL_law__1715 dL_law__1716 hi hl ?_
    refine sarg2 dL_law__1717 dL_law__1718 dL_law__1720 dL_law__1721 dL_law__1722 hi hl ?_
    refine R_if_eq dL_law__1723 (fun q => ?_) (fun q => ?_)
    · exact absurd q e2
    · refine R_iconst_1 dL_law__1726 ?_
      refine R_goto dL_law__1727 ?_
      refine invV2 rfl dL_law__1731 kL_234 G.2.1.o (Nat.le_of_ble_eq_true rfl) (Nat.zero_le _) (Nat.zero_le _) (A9 _ (fun h2 r ix9 t9 o9 => konI ?_))
      refine iS6 dL_law__1734 ?_
      refine aL2 dL_law__1736 ?_
      refine invV0 rfl dL_law__1737 kL_146 G.2.1.o (Nat.le_of_ble_eq_true rfl) (Nat.zero_le _) (Nat.zero_le _) (C_X12_thrown (d := 44) (M := 281) G.2.1 (konI ?_))
      rw [t9]
      refine iL5 dL_law__1740 ?_
      refine R_icmp_eq dL_law__1742 (fun _ => ?_) (fun e => absurd rfl e)
      refine iL5 dL_law__1747 ?_
      refine R_if_ne dL_law__1749 (fun ec => ?_) (fun ec => ?_)
      · refine R_goto dL_law__1764 ?_
        exact Run.le (by omega) (by omega) (LK _ _ _ ix9)
      · have o8 := o9 ec
        refine aL3 dL_law__1752 ?_
        refine R_iconst_0 dL_law__1753 ?_
        refine R_lald dL_law__1754 G.2.2 (Int.le_refl 0) (by decide) ?_
        rw [show h2 300 (0 : Int).toNat = r from o8]
        refine iL6 dL_law__1755 ?_
        refine R_i2l dL_law__1757 ?_
        refine R_lcmp dL_law__1758 ?_
        rw [cmpL_self]
        refine R_if_eq dL_law__1759 (fun _ => ?_) (fun e => absurd rfl e)
        refine R_goto dL_law__1764 ?_
        exact Run.le (by omega) (by omega) (LK _ _ _ ix9)
theorem LC_28 {g : Gs} {h : Hc} {P : Po} {kc ks i : Nat} {a5 a6 : AV} (G : G9 g) (X9 : IX h) (hi : i + 6 ≤ g.2.2.1) (hl : g.2.2.1 ≤ 3072) (hz : ∀ i, in32 (g.2.2.2 i)) (k4 : 4 ≤ kc) (s24 : 24 ≤ ks) (LK : ∀ h' b5 b6, IX h' → Run 45 (kc - 4) (ks - 24) mL_law_ 2859 [vX 0, vR 0, vR 281, vR 300, vI (i : Int), b5, b6] [] g h' P) : Run 45 kc ks mL_law_ 1767 [vX 0, vR 0, vR 281, vR 300, vI (i : Int), a5, a6] [] g h P := by
  obtain ⟨w, A, n, L, b, im, wi, f, I, J, K⟩ := X9
  refine aL1 dL_law__1767 ?_
  refine sarg1 dL_law__1768 dL_law__1769 dL_law__1771 dL_law__1772 dL_law__1773 hi hl ?_
  refine aL3 dL_law__1774 ?_
  refine R_invHg (av := [vR 0, vI (g.2.2.2 (i + 1)), vR 300]) (st := []) rfl dL_law__1775 kL_235 rfl (Nat.le_of_ble_eq_true rfl) (mc := 2) (ms := 12) (by omega) (by omega) (C_L_tries G.1.o G.2.2 G.1.1 (AG_tries G I J K (fun h1 c A9 => konG G.1.1 ?_)))
  refine iS5 dL_law__1778 ?_
  refine aL2 dL_law__1780 ?_
  refine sarg1 dL_law__1781 dL_law__1782 dL_law__1784 dL_law__1785 dL_law__1786 hi hl ?_
  refine invV1 rfl dL_law__1787 kL_237 G.2.1.o (Nat.le_of_ble_eq_true rfl) (Nat.zero_le _) (Nat.zero_le _) (A9 _ (fun h2 r ix9 t9 o9 => konI ?_))
  refine iS6 dL_law__1790 ?_
  refine aL2 dL_law__1792 ?_
  refine invV0 rfl dL_law__1793 kL_146 G.2.1.o (Nat.le_of_ble_eq_true rfl) (Nat.zero_le _) (Nat.zero_le _) (C_X12_thrown (d := 44) (M := 281) G.2.1 (konI ?_))
  rw [t9]
  refine iL5 dL_law__1796 ?_
  refine R_icmp_eq dL_law__1798 (fun _ => ?_) (fun e => absurd rfl e)
  refine iL5 dL_law__1803 ?_
  refine R_if_ne dL_law__1805 (fun ec => ?_) (fun ec => ?_)
  · refine R_goto dL_law__1820 ?_
    exact Run.le (by omega) (by omega) (LK _ _ _ ix9)
  · have o8 := o9 ec
    refine aL3 dL_law__1808 ?_
    refine R_iconst_0 dL_law__1809 ?_
    refine R_lald dL_law__1810 G.2.2 (Int.le_refl 0) (by decide) ?_
    rw [show h2 300 (0 : Int).toNat = r from o8]
    refine iL6 dL_law__1811 ?_
    refine R_i2l dL_law__1813 ?_
    refine R_lcmp dL_law__1814 ?_
    rw [cmpL_self]
    refine R_if_eq dL_law__1815 (fun _ => ?_) (fun e => absurd rfl e)
    refine R_goto dL_law__1820 ?_
    exact Run.le (by omega) (by omega) (LK _ _ _ ix9)
theorem LC_29 {g : Gs} {h : Hc} {P : Po} {kc ks i : Nat} {a5 a6 : AV} (G : G9 g) (X9 : IX h) (hi : i + 6 ≤ g.2.2.1) (hl : g.2.2.1 ≤ 3072) (hz : ∀ i, in32 (g.2.2.2 i)) (k4 : 4 ≤ kc) (s24 : 24 ≤ ks) (LK : ∀ h' b5 b6, IX h' → Run 45 (kc - 4) (ks - 24) mL_law_ 2859 [vX 0, vR 0, vR 281, vR 300, vI (i : Int), b5, b6] [] g h' P) : Run 45 kc ks mL_law_ 1823 [vX 0, vR 0, vR 281, vR 300, vI (i : Int), a5, a6] [] g h P := by
  obtain ⟨w, A, n, L, b, im, wi, f, I, J, K⟩ := X9
  refine aL1 dL_law__1823 ?_
  refine sarg1 dL_law__1824 dL_law__1825 dL_law__1827 dL_law__1828 dL_law__1829 hi hl ?_
  refine sarg2 dL_law__1830 dL_law__1831 dL_law__1833 dL_law__1834 dL_law__1835 hi hl ?_
  refine aL3 dL_law__1836 ?_
  refine R_invHg (av := [vR 0, vI (g.2.2.2 (i + 1)), vI (g.2.2.2 (i + 2)), vR 300]) (st := []) rfl dL_law__1837 kL_238 rfl (Nat.le_of_ble_eq_true rfl) (mc := 2) (ms := 12) (by omega) (by omega) (C_L_moved G.1.o G.2.2 G.1.1 (AG_moved G I J K (fun h1 c A9 => konG G.1.1 ?_)))
  refine iS5 dL_law__1840 ?_
  refine aL2 dL_law__1842 ?_
  refine sarg1 dL_law__1843 dL_law__1844 dL_law__1846 dL_law__1847 dL_law__1848 hi hl ?_
  refine sarg2 dL_law__1849 dL_law__1850 dL_law__1852 dL_law__1853 dL_law__1854 hi hl ?_
  refine invV2 rfl dL_law__1855 kL_240 G.2.1.o (Nat.le_of_ble_eq_true rfl) (Nat.zero_le _) (Nat.zero_le _) (A9 _ (fun h2 r ix9 t9 o9 => konI ?_))
  refine iS6 dL_law__1858 ?_
  refine aL2 dL_law__1860 ?_
  refine invV0 rfl dL_law__1861 kL_146 G.2.1.o (Nat.le_of_ble_eq_true rfl) (Nat.zero_le _) (Nat.zero_le _) (C_X12_thrown (d := 44) (M := 281) G.2.1 (konI ?_))
  rw [t9]
  refine iL5 dL_law__1864 ?_
  refine R_icmp_eq dL_law__1866 (fun _ => ?_) (fun e => absurd rfl e)
  refine iL5 dL_law__1871 ?_
  refine R_if_ne dL_law__1873 (fun ec => ?_) (fun ec => ?_)
  · refine R_goto dL_law__1888 ?_
    exact Run.le (by omega) (by omega) (LK _ _ _ ix9)
  · have o8 := o9 ec
    refine aL3 dL_law__1876 ?_
    refine R_iconst_0 dL_law__1877 ?_
    refine R_lald dL_law__1878 G.2.2 (Int.le_refl 0) (by decide) ?_
    rw [show h2 300 (0 : Int).toNat = r from o8]
    refine iL6 dL_law__1879 ?_
    refine R_i2l dL_law__1881 ?_
    refine R_lcmp dL_law__1882 ?_
    rw [cmpL_self]
    refine R_if_eq dL_law__1883 (fun _ => ?_) (fun e => absurd rfl e)
    refine R_goto dL_law__1888 ?_
    exact Run.le (by omega) (by omega) (LK _ _ _ ix9)
theorem LC_30 {g : Gs} {h : Hc} {P : Po} {kc ks i : Nat} {a5 a6 : AV} (G : G9 g) (X9 : IX h) (hi : i + 6 ≤ g.2.2.1) (hl : g.2.2.1 ≤ 3072) (hz : ∀ i, in32 (g.2.2.2 i)) (k4 : 4 ≤ kc) (s24 : 24 ≤ ks) (LK : ∀ h' b5 b6, IX h' → Run 45 (kc - 4) (ks - 24) mL_law_ 2859 [vX 0, vR 0, vR 281, vR 300, vI (i : Int), b5, b6] [] g h' P) : Run 45 kc ks mL_law_ 1891 [vX 0, vR 0, vR 281, vR 300, vI (i : Int), a5, a6] [] g h P := by
  obtain ⟨w, A, n, L, b, im, wi, f, I, J, K⟩ := X9
  refine aL1 dL_law__1891 ?_
  refine sarg1 dL_law__1892 dL_law__1893 dL_law__1895 dL_law__1896 dL_law__1897 hi hl ?_
  refine sarg2 dL_law__1898 dL_law__1899 dL_law__1901 dL_law__1902 dL_law__1903 hi hl ?_
  refine aL3 dL_law__1904 ?_
  refine R_invHg (av := [vR 0, vI (g.2.2.2 (i + 1)), vI (g.2.2.2 (i + 2)), vR 300]) (st := []) rfl dL_law__1905 kL_241 rfl (Nat.le_of_ble_eq_true rfl) (mc := 2) (ms := 12) (by omega) (by omega) (C_L_even G.1.o G.2.2 G.1.1 (AG_even G I J K (fun h1 c A9 => konG G.1.1 ?_)))
  refine iS5 dL_law__1908 ?_
  refine aL2 dL_law__1910 ?_
  refine sarg1 dL_law__1911 dL_law__1912 dL_law__1914 dL_law__1915 dL_law__1916 hi hl ?_
  refine sarg2 dL_law__1917 dL_law__1918 dL_law__1920 dL_law__1921 dL_law__1922 hi hl ?_
  refine invV2 rfl dL_law__1923 kL_243 G.2.1.o (Nat.le_of_ble_eq_true rfl) (Nat.zero_le _) (Nat.zero_le _) (A9 _ (fun h2 r ix9 t9 o9 => konI ?_))
  refine iS6 dL_law__1926 ?_
  refine aL2 dL_law__1928 ?_
  refine invV0 rfl dL_law__1929 kL_146 G.2.1.o (Nat.le_of_ble_eq_true rfl) (Nat.zero_le _) (Nat.zero_le _) (C_X12_thrown (d := 44) (M := 281) G.2.1 (konI ?_))
  rw [t9]
  refine iL5 dL_law__1932 ?_
  refine R_icmp_eq dL_law__1934 (fun _ => ?_) (fun e => absurd rfl e)
  refine iL5 dL_law__1939 ?_
  refine R_if_ne dL_law__1941 (fun ec => ?_) (fun ec => ?_)
  · refine R_goto dL_law__1956 ?_
    exact Run.le (by omega) (by omega) (LK _ _ _ ix9)
  · have o8 := o9 ec
    refine aL3 dL_law__1944 ?_
    refine R_iconst_0 dL_law__1945 ?_
    refine R_lald dL_law__1946 G.2.2 (Int.le_refl 0) (by decide) ?_
    rw [show h2 300 (0 : Int).toNat = r from o8]
    refine iL6 dL_law__1947 ?_
    refine R_i2l dL_law__1949 ?_
    refine R_lcmp dL_law__1950 ?_
    rw [cmpL_self]
    refine R_if_eq dL_law__1951 (fun _ => ?_) (fun e => absurd rfl e)
    refine R_goto dL_law__1956 ?_
    exact Run.le (by omega) (by omega) (LK _ _ _ ix9)
theorem LC_31 {g : Gs} {h : Hc} {P : Po} {kc ks i : Nat} {a5 a6 : AV} (G : G9 g) (X9 : IX h) (hi : i + 6 ≤ g.2.2.1) (hl : g.2.2.1 ≤ 3072) (hz : ∀ i, in32 (g.2.2.2 i)) (k4 : 4 ≤ kc) (s24 : 24 ≤ ks) (LK : ∀ h' b5 b6, IX h' → Run 45 (kc - 4) (ks - 24) mL_law_ 2859 [vX 0, vR 0, vR 281, vR 300, vI (i : Int), b5, b6] [] g h' P) : Run 45 kc ks mL_law_ 1959 [vX 0, vR 0, vR 281, vR 300, vI (i : Int), a5, a6] [] g h P := by
  obtain ⟨w, A, n, L, b, im, wi, f, I, J, K⟩ := X9
  refine aL1 dL_law__1959 ?_
  refine sarg1 dL_law__1960 dL_law__1961 dL_law__1963 dL_law__1964 dL_law__1965 hi hl ?_
  refine sarg2 dL_law__1966 dL_law__1967 dL_law__1969 dL_law__1970 dL_law__1971 hi hl ?_
  refine aL3 dL_law__1972 ?_
  refine R_invHg (av := [vR 0, vI (g.2.2.2 (i + 1)), vI (g.2.2.2 (i + 2)), vR 300]) (st := []) rfl dL_law__1973 kL_244 rfl (Nat.le_of_ble_eq_true rfl) (mc := 2) (ms := 12) (by omega) (by omega) (C_L_rather G.1.o G.2.2 G.1.1 (AG_rather G I J K (fun h1 c A9 => konG G.1.1 ?_)))
  refine iS5 dL_law__1976 ?_
  refine aL2 dL_law__1978 ?_
  refine sarg1 dL_law__1979 dL_law__1980 dL_law__1982 dL_law__1983 dL_law__1984 hi hl ?_
  refine sarg2 dL_law__1985 dL_law__1986 dL_law__1988 dL_law__1989 dL_law__1990 hi hl ?_
  refine invV2 rfl dL_law__1991 kL_246 G.2.1.o (Nat.le_of_ble_eq_true rfl) (Nat.zero_le _) (Nat.zero_le _) (A9 _ (fun h2 r ix9 t9 o9 => konI ?_))
  refine iS6 dL_law__1994 ?_
  refine aL2 dL_law__1996 ?_
  refine invV0 rfl dL_law__1997 kL_146 G.2.1.o (Nat.le_of_ble_eq_true rfl) (Nat.zero_le _) (Nat.zero_le _) (C_X12_thrown (d := 44) (M := 281) G.2.1 (konI ?_))
  rw [t9]
  refine iL5 dL_law__2000 ?_
  refine R_icmp_eq dL_law__2002 (fun _ => ?_) (fun e => absurd rfl e)
  refine iL5 dL_law__2007 ?_
  refine R_if_ne dL_law__2009 (fun ec => ?_) (fun ec => ?_)
  · refine R_goto dL_law__2024 ?_
    exact Run.le (by omega) (by omega) (LK _ _ _ ix9)
  · have o8 := o9 ec
    refine aL3 dL_law__2012 ?_
    refine R_iconst_0 dL_law__2013 ?_
    refine R_lald dL_law__2014 G.2.2 (Int.le_refl 0) (by decide) ?_
    rw [show h2 300 (0 : Int).toNat = r from o8]
    refine iL6 dL_law__2015 ?_
    refine R_i2l dL_law__2017 ?_
    refine R_lcmp dL_law__2018 ?_
    rw [cmpL_self]
    refine R_if_eq dL_law__2019 (fun _ => ?_) (fun e => absurd rfl e)
    refine R_goto dL_law__2024 ?_
    exact Run.le (by omega) (by omega) (LK _ _ _ ix9)
theorem LC_32 {g : Gs} {h : Hc} {P : Po} {kc ks i : Nat} {a5 a6 : AV} (G : G9 g) (X9 : IX h) (hi : i + 6 ≤ g.2.2.1) (hl : g.2.2.1 ≤ 3072) (hz : ∀ i, in32 (g.2.2.2 i)) (k4 : 4 ≤ kc) (s24 : 24 ≤ ks) (LK : ∀ h' b5 b6, IX h' → Run 45 (kc - 4) (ks - 24) mL_law_ 2859 [vX 0, vR 0, vR 281, vR 300, vI (i : Int), b5, b6] [] g h' P) : Run 45 kc ks mL_law_ 2027 [vX 0, vR 0, vR 281, vR 300, vI (i : Int), a5, a6] [] g h P := by
  obtain ⟨w, A, n, L, b, im, wi, f, I, J, K⟩ := X9
  refine aL1 dL_law__2027 ?_
  refine invV0 rfl dL_law__2028 kL_247 G.1.o (Nat.le_of_ble_eq_true rfl) (Nat.zero_le _) (Nat.zero_le _) (AG_worth G I J K (fun h1 v A9 => konG G.1.1 ?_))
  refine aL2 dL_law__2031 ?_
  refine invV0 rfl dL_law__2032 kL_250 G.2.1.o (Nat.le_of_ble_eq_true rfl) (Nat.zero_le _) (Nat.zero_le _) (A9 _ (fun h2 ix9 => konI ?_))
  exact R_icmp_eq dL_law__2035 (fun _ => Run.le (by omega) (by omega) (LK _ _ _ ix9)) (fun e => absurd rfl e)
theorem LC_33 {g : Gs} {h : Hc} {P : Po} {kc ks i : Nat} {a5 a6 : AV} (G : G9 g) (X9 : IX h) (hi : i + 6 ≤ g.2.2.1) (hl : g.2.2.1 ≤ 3072) (hz : ∀ i, in32 (g.2.2.2 i)) (k4 : 4 ≤ kc) (s24 : 24 ≤ ks) (LK : ∀ h' b5 b6, IX h' → Run 45 (kc - 4) (ks - 24) mL_law_ 2859 [vX 0, vR 0, vR 281, vR 300, vI (i : Int), b5, b6] [] g h' P) : Run 45 kc ks mL_law_ 2040 [vX 0, vR 0, vR 281, vR 300, vI (i : Int), a5, a6] [] g h P := by
  obtain ⟨w, A, n, L, b, im, wi, f, I, J, K⟩ := X9
  refine aL1 dL_law__2040 ?_
  refine sarg1 dL_law__2041 dL_law__2042 dL_law__2044 dL_law__2045 dL_law__2046 hi hl ?_
  refine aL3 dL_law__2047 ?_
  by_cases hx : (g.2.2.2 (i + 1)) = -1
  · rw [hx]
    refine R_invHg (av := [vR 0, vI (-1), vR 300]) (st := []) rfl dL_law__2048 kL_251 rfl (Nat.le_of_ble_eq_true rfl) (mc := 0) (ms := 0) (by omega) (by omega) (C_L_pairs G.1.o G.2.2 G.1.1 (AG_pairs_n G I J K (fun h1 c A9 => konG G.1.1 ?_)))
    refine iS5 dL_law__2051 ?_
    refine aL2 dL_law__2053 ?_
    refine sarg1 dL_law__2054 dL_law__2055 dL_law__2057 dL_law__2058 dL_law__2059 hi hl ?_
    rw [hx]
    refine invV1 rfl dL_law__2060 kL_253 G.2.1.o (Nat.le_of_ble_eq_true rfl) (Nat.zero_le _) (Nat.zero_le _) (A9 _ (fun h2 r ix9 t9 o9 => konI ?_))
    refine iS6 dL_law__2063 ?_
    refine aL2 dL_law__2065 ?_
    refine invV0 rfl dL_law__2066 kL_146 G.2.1.o (Nat.le_of_ble_eq_true rfl) (Nat.zero_le _) (Nat.zero_le _) (C_X12_thrown (d := 44) (M := 281) G.2.1 (konI ?_))
    rw [t9]
    refine iL5 dL_law__2069 ?_
    refine R_icmp_eq dL_law__2071 (fun _ => ?_) (fun e => absurd rfl e)
    refine iL5 dL_law__2076 ?_
    refine R_if_ne dL_law__2078 (fun ec => ?_) (fun ec => ?_)
    · refine R_goto dL_law__2093 ?_
      exact Run.le (by omega) (by omega) (LK _ _ _ ix9)
    · have o8 := o9 ec
      refine aL3 dL_law__2081 ?_
      refine R_iconst_0 dL_law__2082 ?_
      refine R_lald dL_law__2083 G.2.2 (Int.le_refl 0) (by decide) ?_
      rw [show h2 300 (0 : Int).toNat = r from o8]
      refine iL6 dL_law__2084 ?_
      refine R_i2l dL_law__2086 ?_
      refine R_lcmp dL_law__2087 ?_
      rw [cmpL_self]
      refine R_if_eq dL_law__2088 (fun _ => ?_) (fun e => absurd rfl e)
      refine R_goto dL_law__2093 ?_
      exact Run.le (by omega) (by omega) (LK _ _ _ ix9)
  · skip
    refine R_invHg (av := [vR 0, vI (g.2.2.2 (i + 1)), vR 300]) (st := []) rfl dL_law__2048 kL_251 rfl (Nat.le_of_ble_eq_true rfl) (mc := 1) (ms := 6) (by omega) (by omega) (C_L_pairs G.1.o G.2.2 G.1.1 (AG_pairs G I J K hx (fun h1 c A9 => konG G.1.1 ?_)))
    refine iS5 dL_law__2051 ?_
    refine aL2 dL_law__2053 ?_
    refine sarg1 dL_law__2054 dL_law__2055 dL_law__2057 dL_law__2058 dL_law__2059 hi hl ?_
    refine invV1 rfl dL_law__2060 kL_253 G.2.1.o (Nat.le_of_ble_eq_true rfl) (Nat.zero_le _) (Nat.zero_le _) (A9 _ (fun h2 r ix9 t9 o9 => konI ?_))
    refine iS6 dL_law__2063 ?_
    refine aL2 dL_law__2065 ?_
    refine invV0 rfl dL_law__2066 kL_146 G.2.1.o (Nat.le_of_ble_eq_true rfl) (Nat.zero_le _) (Nat.zero_le _) (C_X12_thrown (d := 44) (M := 281) G.2.1 (konI ?_))
    rw [t9]
    refine iL5 dL_law__2069 ?_
    refine R_icmp_eq dL_law__2071 (fun _ => ?_) (fun e => absurd rfl e)
    refine iL5 dL_law__2076 ?_
    refine R_if_ne dL_law__2078 (fun ec => ?_) (fun ec => ?_)
    · refine R_goto dL_law__2093 ?_
      exact Run.le (by omega) (by omega) (LK _ _ _ ix9)
    · have o8 := o9 ec
      refine aL3 dL_law__2081 ?_
      refine R_iconst_0 dL_law__2082 ?_
      refine R_lald dL_law__2083 G.2.2 (Int.le_refl 0) (by decide) ?_
      rw [show h2 300 (0 : Int).toNat = r from o8]
      refine iL6 dL_law__2084 ?_
      refine R_i2l dL_law__2086 ?_
      refine R_lcmp dL_law__2087 ?_
      rw [cmpL_self]
      refine R_if_eq dL_law__2088 (fun _ => ?_) (fun e => absurd rfl e)
      refine R_goto dL_law__2093 ?_
      exact Run.le (by omega) (by omega) (LK _ _ _ ix9)
theorem LC_34 {g : Gs} {h : Hc} {P : Po} {kc ks i : Nat} {a5 a6 : AV} (G : G9 g) (X9 : IX h) (hi : i + 6 ≤ g.2.2.1) (hl : g.2.2.1 ≤ 3072) (hz : ∀ i, in32 (g.2.2.2 i)) (k4 : 4 ≤ kc) (s24 : 24 ≤ ks) (LK : ∀ h' b5 b6, IX h' → Run 45 (kc - 4) (ks - 24) mL_law_ 2859 [vX 0, vR 0, vR 281, vR 300, vI (i : Int), b5, b6] [] g h' P) : Run 45 kc ks mL_law_ 2096 [vX 0, vR 0, vR 281, vR 300, vI (i : Int), a5, a6] [] g h P := by
  obtain ⟨w, A, n, L, b, im, wi, f, I, J, K⟩ := X9
  refine aL1 dL_law__2096 ?_
  refine invV0 rfl dL_law__2097 kL_254 G.1.o (Nat.le_of_ble_eq_true rfl) (Nat.zero_le _) (Nat.zero_le _) (AG_agree G I J K (fun h1 v A9 => konG G.1.1 ?_))
  refine aL2 dL_law__2100 ?_
  refine invV0 rfl dL_law__2101 kL_257 G.2.1.o (Nat.le_of_ble_eq_true rfl) (Nat.zero_le _) (Nat.zero_le _) (A9 _ (fun h2 ix9 => konI ?_))
  exact R_icmp_eq dL_law__2104 (fun _ => Run.le (by omega) (by omega) (LK _ _ _ ix9)) (fun e => absurd rfl e)
theorem LC_35 {g : Gs} {h : Hc} {P : Po} {kc ks i : Nat} {a5 a6 : AV} (G : G9 g) (X9 : IX h) (hi : i + 6 ≤ g.2.2.1) (hl : g.2.2.1 ≤ 3072) (hz : ∀ i, in32 (g.2.2.2 i)) (k4 : 4 ≤ kc) (s24 : 24 ≤ ks) (LK : ∀ h' b5 b6, IX h' → Run 45 (kc - 4) (ks - 24) mL_law_ 2859 [vX 0, vR 0, vR 281, vR 300, vI (i : Int), b5, b6] [] g h' P) : Run 45 kc ks mL_law_ 2109 [vX 0, vR 0, vR 281, vR 300, vI (i : Int), a5, a6] [] g h P := by
  obtain ⟨w, A, n, L, b, im, wi, f, I, J, K⟩ := X9
  refine aL1 dL_law__2109 ?_
  refine sarg1 dL_law__2110 dL_law__2111 dL_law__2113 dL_law__2114 dL_law__2115 hi hl ?_
  refine aL3 dL_law__2116 ?_
  refine R_invHg (av := [vR 0, vI (g.2.2.2 (i + 1)), vR 300]) (st := []) rfl dL_law__2117 kL_258 rfl (Nat.le_of_ble_eq_true rfl) (mc := 1) (ms := 6) (by omega) (by omega) (C_L_rests G.1.o G.2.2 G.1.1 (AG_rests G I J K (fun h1 c A9 => konG G.1.1 ?_)))
  refine iS5 dL_law__2120 ?_
  refine aL2 dL_law__2122 ?_
  refine sarg1 dL_law__2123 dL_law__2124 dL_law__2126 dL_law__2127 dL_law__2128 hi hl ?_
  refine invV1 rfl dL_law__2129 kL_260 G.2.1.o (Nat.le_of_ble_eq_true rfl) (Nat.zero_le _) (Nat.zero_le _) (A9 _ (fun h2 r ix9 t9 o9 => konI ?_))
  refine iS6 dL_law__2132 ?_
  refine aL2 dL_law__2134 ?_
  refine invV0 rfl dL_law__2135 kL_146 G.2.1.o (Nat.le_of_ble_eq_true rfl) (Nat.zero_le _) (Nat.zero_le _) (C_X12_thrown (d := 44) (M := 281) G.2.1 (konI ?_))
  rw [t9]
  refine iL5 dL_law__2138 ?_
  refine R_icmp_eq dL_law__2140 (fun _ => ?_) (fun e => absurd rfl e)
  refine iL5 dL_law__2145 ?_
  refine R_if_ne dL_law__2147 (fun ec => ?_) (fun ec => ?_)
  · refine R_goto dL_law__2162 ?_
    exact Run.le (by omega) (by omega) (LK _ _ _ ix9)
  · have o8 := o9 ec
    refine aL3 dL_law__2150 ?_
    refine R_iconst_0 dL_law__2151 ?_
    refine R_lald dL_law__2152 G.2.2 (Int.le_refl 0) (by decide) ?_
    rw [show h2 300 (0 : Int).toNat = r from o8]
    refine iL6 dL_law__2153 ?_
    refine R_i2l dL_law__2155 ?_
    refine R_lcmp dL_law__2156 ?_
    rw [cmpL_self]
    refine R_if_eq dL_law__2157 (fun _ => ?_) (fun e => absurd rfl e)
    refine R_goto dL_law__2162 ?_
    exact Run.le (by omega) (by omega) (LK _ _ _ ix9)
theorem LC_36 {g : Gs} {h : Hc} {P : Po} {kc ks i : Nat} {a5 a6 : AV} (G : G9 g) (X9 : IX h) (hi : i + 6 ≤ g.2.2.1) (hl : g.2.2.1 ≤ 3072) (hz : ∀ i, in32 (g.2.2.2 i)) (k4 : 4 ≤ kc) (s24 : 24 ≤ ks) (LK : ∀ h' b5 b6, IX h' → Run 45 (kc - 4) (ks - 24) mL_law_ 2859 [vX 0, vR 0, vR 281, vR 300, vI (i : Int), b5, b6] [] g h' P) : Run 45 kc ks mL_law_ 2165 [vX 0, vR 0, vR 281, vR 300, vI (i : Int), a5, a6] [] g h P := by
  obtain ⟨w, A, n, L, b, im, wi, f, I, J, K⟩ := X9
  refine aL1 dL_law__2165 ?_
  refine sarg1 dL_law__2166 dL_law__2167 dL_law__2169 dL_law__2170 dL_law__2171 hi hl ?_
  refine sarg2 dL_law__2172 dL_law__2173 dL_law__2175 dL_law__2176 dL_law__2177 hi hl ?_
  refine aL3 dL_law__2178 ?_
  refine R_invHg (av := [vR 0, vI (g.2.2.2 (i + 1)), vI (g.2.2.2 (i + 2)), vR 300]) (st := []) rfl dL_law__2179 kL_261 rfl (Nat.le_of_ble_eq_true rfl) (mc := 2) (ms := 12) (by omega) (by omega) (C_L_odds G.1.o G.2.2 G.1.1 (AG_odds G I J K (fun h1 c A9 => konG G.1.1 ?_)))
  refine iS5 dL_law__2182 ?_
  refine aL2 dL_law__2184 ?_
  refine sarg1 dL_law__2185 dL_law__2186 dL_law__2188 dL_law__2189 dL_law__2190 hi hl ?_
  refine sarg2 dL_law__2191 dL_law__2192 dL_law__2194 dL_law__2195 dL_law__2196 hi hl ?_
  refine invV2 rfl dL_law__2197 kL_263 G.2.1.o (Nat.le_of_ble_eq_true rfl) (Nat.zero_le _) (Nat.zero_le _) (A9 _ (fun h2 r ix9 t9 o9 => konI ?_))
  refine iS6 dL_law__2200 ?_
  refine aL2 dL_law__2202 ?_
  refine invV0 rfl dL_law__2203 kL_146 G.2.1.o (Nat.le_of_ble_eq_true rfl) (Nat.zero_le _) (Nat.zero_le _) (C_X12_thrown (d := 44) (M := 281) G.2.1 (konI ?_))
  rw [t9]
  refine iL5 dL_law__2206 ?_
  refine R_icmp_eq dL_law__2208 (fun _ => ?_) (fun e => absurd rfl e)
  refine iL5 dL_law__2213 ?_
  refine R_if_ne dL_law__2215 (fun ec => ?_) (fun ec => ?_)
  · refine R_goto dL_law__2230 ?_
    exact Run.le (by omega) (by omega) (LK _ _ _ ix9)
  · have o8 := o9 ec
    refine aL3 dL_law__2218 ?_
    refine R_iconst_0 dL_law__2219 ?_
    refine R_lald dL_law__2220 G.2.2 (Int.le_refl 0) (by decide) ?_
    rw [show h2 300 (0 : Int).toNat = r from o8]
    refine iL6 dL_law__2221 ?_
    refine R_i2l dL_law__2223 ?_
    refine R_lcmp dL_law__2224 ?_
    rw [cmpL_self]
    refine R_if_eq dL_law__2225 (fun _ => ?_) (fun e => absurd rfl e)
    refine R_goto dL_law__2230 ?_
    exact Run.le (by omega) (by omega) (LK _ _ _ ix9)
theorem LC_37 {g : Gs} {h : Hc} {P : Po} {kc ks i : Nat} {a5 a6 : AV} (G : G9 g) (X9 : IX h) (hi : i + 6 ≤ g.2.2.1) (hl : g.2.2.1 ≤ 3072) (hz : ∀ i, in32 (g.2.2.2 i)) (k4 : 4 ≤ kc) (s24 : 24 ≤ ks) (LK : ∀ h' b5 b6, IX h' → Run 45 (kc - 4) (ks - 24) mL_law_ 2859 [vX 0, vR 0, vR 281, vR 300, vI (i : Int), b5, b6] [] g h' P) : Run 45 kc ks mL_law_ 2233 [vX 0, vR 0, vR 281, vR 300, vI (i : Int), a5, a6] [] g h P := by
  obtain ⟨w, A, n, L, b, im, wi, f, I, J, K⟩ := X9
  refine aL1 dL_law__2233 ?_
  refine invV0 rfl dL_law__2234 kL_264 G.1.o (Nat.le_of_ble_eq_true rfl) (Nat.zero_le _) (Nat.zero_le _) (AG_hungriest G I J K (fun h1 v A9 => konG G.1.1 ?_))
  refine aL2 dL_law__2237 ?_
  refine invV0 rfl dL_law__2238 kL_267 G.2.1.o (Nat.le_of_ble_eq_true rfl) (Nat.zero_le _) (Nat.zero_le _) (A9 _ (fun h2 ix9 => konI ?_))
  exact R_icmp_eq dL_law__2241 (fun _ => Run.le (by omega) (by omega) (LK _ _ _ ix9)) (fun e => absurd rfl e)
theorem LC_38 {g : Gs} {h : Hc} {P : Po} {kc ks i : Nat} {a5 a6 : AV} (G : G9 g) (X9 : IX h) (hi : i + 6 ≤ g.2.2.1) (hl : g.2.2.1 ≤ 3072) (hz : ∀ i, in32 (g.2.2.2 i)) (k4 : 4 ≤ kc) (s24 : 24 ≤ ks) (LK : ∀ h' b5 b6, IX h' → Run 45 (kc - 4) (ks - 24) mL_law_ 2859 [vX 0, vR 0, vR 281, vR 300, vI (i : Int), b5, b6] [] g h' P) : Run 45 kc ks mL_law_ 2246 [vX 0, vR 0, vR 281, vR 300, vI (i : Int), a5, a6] [] g h P := by
  obtain ⟨w, A, n, L, b, im, wi, f, I, J, K⟩ := X9
  refine aL1 dL_law__2246 ?_
  refine invV0 rfl dL_law__2247 kL_268 G.1.o (Nat.le_of_ble_eq_true rfl) (Nat.zero_le _) (Nat.zero_le _) (AG_gravest G I J K (fun h1 v A9 => konG G.1.1 ?_))
  refine aL2 dL_law__2250 ?_
  refine invV0 rfl dL_law__2251 kL_271 G.2.1.o (Nat.le_of_ble_eq_true rfl) (Nat.zero_le _) (Nat.zero_le _) (A9 _ (fun h2 ix9 => konI ?_))
  exact R_icmp_eq dL_law__2254 (fun _ => Run.le (by omega) (by omega) (LK _ _ _ ix9)) (fun e => absurd rfl e)
theorem LC_39 {g : Gs} {h : Hc} {P : Po} {kc ks i : Nat} {a5 a6 : AV} (G : G9 g) (X9 : IX h) (hi : i + 6 ≤ g.2.2.1) (hl : g.2.2.1 ≤ 3072) (hz : ∀ i, in32 (g.2.2.2 i)) (k4 : 4 ≤ kc) (s24 : 24 ≤ ks) (LK : ∀ h' b5 b6, IX h' → Run 45 (kc - 4) (ks - 24) mL_law_ 2859 [vX 0, vR 0, vR 281, vR 300, vI (i : Int), b5, b6] [] g h' P) : Run 45 kc ks mL_law_ 2259 [vX 0, vR 0, vR 281, vR 300, vI (i : Int), a5, a6] [] g h P := by
  obtain ⟨w, A, n, L, b, im, wi, f, I, J, K⟩ := X9
  refine aL1 dL_law__2259 ?_
  refine sarg1 dL_law__2260 dL_law__2261 dL_law__2263 dL_law__2264 dL_law__2265 hi hl ?_
  refine aL3 dL_law__2266 ?_
  refine R_invHg (av := [vR 0, vI (g.2.2.2 (i + 1)), vR 300]) (st := []) rfl dL_law__2267 kL_272 rfl (Nat.le_of_ble_eq_true rfl) (mc := 1) (ms := 6) (by omega) (by omega) (C_L_kind G.1.o G.2.2 G.1.1 (AG_kind G I J K (fun h1 c A9 => konG G.1.1 ?_)))
  refine iS5 dL_law__2270 ?_
  refine aL2 dL_law__2272 ?_
  refine sarg1 dL_law__2273 dL_law__2274 dL_law__2276 dL_law__2277 dL_law__2278 hi hl ?_
  refine invV1 rfl dL_law__2279 kL_274 G.2.1.o (Nat.le_of_ble_eq_true rfl) (Nat.zero_le _) (Nat.zero_le _) (A9 _ (fun h2 r ix9 t9 o9 => konI ?_))
  refine iS6 dL_law__2282 ?_
  refine aL2 dL_law__2284 ?_
  refine invV0 rfl dL_law__2285 kL_146 G.2.1.o (Nat.le_of_ble_eq_true rfl) (Nat.zero_le _) (Nat.zero_le _) (C_X12_thrown (d := 44) (M := 281) G.2.1 (konI ?_))
  rw [t9]
  refine iL5 dL_law__2288 ?_
  refine R_icmp_eq dL_law__2290 (fun _ => ?_) (fun e => absurd rfl e)
  refine iL5 dL_law__2295 ?_
  refine R_if_ne dL_law__2297 (fun ec => ?_) (fun ec => ?_)
  · refine R_goto dL_law__2312 ?_
    exact Run.le (by omega) (by omega) (LK _ _ _ ix9)
  · have o8 := o9 ec
    refine aL3 dL_law__2300 ?_
    refine R_iconst_0 dL_law__2301 ?_
    refine R_lald dL_law__2302 G.2.2 (Int.le_refl 0) (by decide) ?_
    rw [show h2 300 (0 : Int).toNat = r from o8]
    refine iL6 dL_law__2303 ?_
    refine R_i2l dL_law__2305 ?_
    refine R_lcmp dL_law__2306 ?_
    rw [cmpL_self]
    refine R_if_eq dL_law__2307 (fun _ => ?_) (fun e => absurd rfl e)
    refine R_goto dL_law__2312 ?_
    exact Run.le (by omega) (by omega) (LK _ _ _ ix9)
theorem LC_40 {g : Gs} {h : Hc} {P : Po} {kc ks i : Nat} {a5 a6 : AV} (G : G9 g) (X9 : IX h) (hi : i + 6 ≤ g.2.2.1) (hl : g.2.2.1 ≤ 3072) (hz : ∀ i, in32 (g.2.2.2 i)) (k4 : 4 ≤ kc) (s24 : 24 ≤ ks) (LK : ∀ h' b5 b6, IX h' → Run 45 (kc - 4) (ks - 24) mL_law_ 2859 [vX 0, vR 0, vR 281, vR 300, vI (i : Int), b5, b6] [] g h' P) : Run 45 kc ks mL_law_ 2315 [vX 0, vR 0, vR 281, vR 300, vI (i : Int), a5, a6] [] g h P := by
  obtain ⟨w, A, n, L, b, im, wi, f, I, J, K⟩ := X9
  refine aL1 dL_law__2315 ?_
  refine sarg1 dL_law__2316 dL_law__2317 dL_law__2319 dL_law__2320 dL_law__2321 hi hl ?_
  refine aL3 dL_law__2322 ?_
  refine R_invHg (av := [vR 0, vI (g.2.2.2 (i + 1)), vR 300]) (st := []) rfl dL_law__2323 kL_275 rfl (Nat.le_of_ble_eq_true rfl) (mc := 1) (ms := 6) (by omega) (by omega) (C_L_state G.1.o G.2.2 G.1.1 (AG_state G I J K (fun h1 c A9 => konG G.1.1 ?_)))
  refine iS5 dL_law__2326 ?_
  refine aL2 dL_law__2328 ?_
  refine sarg1 dL_law__2329 dL_law__2330 dL_law__2332 dL_law__2333 dL_law__2334 hi hl ?_
  refine invV1 rfl dL_law__2335 kL_277 G.2.1.o (Nat.le_of_ble_eq_true rfl) (Nat.zero_le _) (Nat.zero_le _) (A9 _ (fun h2 r ix9 t9 o9 => konI ?_))
  refine iS6 dL_law__2338 ?_
  refine aL2 dL_law__2340 ?_
  refine invV0 rfl dL_law__2341 kL_146 G.2.1.o (Nat.le_of_ble_eq_true rfl) (Nat.zero_le _) (Nat.zero_le _) (C_X12_thrown (d := 44) (M := 281) G.2.1 (konI ?_))
  rw [t9]
  refine iL5 dL_law__2344 ?_
  refine R_icmp_eq dL_law__2346 (fun _ => ?_) (fun e => absurd rfl e)
  refine iL5 dL_law__2351 ?_
  refine R_if_ne dL_law__2353 (fun ec => ?_) (fun ec => ?_)
  · refine R_goto dL_law__2368 ?_
    exact Run.le (by omega) (by omega) (LK _ _ _ ix9)
  · have o8 := o9 ec
    refine aL3 dL_law__2356 ?_
    refine R_iconst_0 dL_law__2357 ?_
    refine R_lald dL_law__2358 G.2.2 (Int.le_refl 0) (by decide) ?_
    rw [show h2 300 (0 : Int).toNat = r from o8]
    refine iL6 dL_law__2359 ?_
    refine R_i2l dL_law__2361 ?_
    refine R_lcmp dL_law__2362 ?_
    rw [cmpL_self]
    refine R_if_eq dL_law__2363 (fun _ => ?_) (fun e => absurd rfl e)
    refine R_goto dL_law__2368 ?_
    exact Run.le (by omega) (by omega) (LK _ _ _ ix9)
theorem LC_41 {g : Gs} {h : Hc} {P : Po} {kc ks i : Nat} {a5 a6 : AV} (G : G9 g) (X9 : IX h) (hi : i + 6 ≤ g.2.2.1) (hl : g.2.2.1 ≤ 3072) (hz : ∀ i, in32 (g.2.2.2 i)) (k4 : 4 ≤ kc) (s24 : 24 ≤ ks) (LK : ∀ h' b5 b6, IX h' → Run 45 (kc - 4) (ks - 24) mL_law_ 2859 [vX 0, vR 0, vR 281, vR 300, vI (i : Int), b5, b6] [] g h' P) : Run 45 kc ks mL_law_ 2371 [vX 0, vR 0, vR 281, vR 300, vI (i : Int), a5, a6] [] g h P := by
  obtain ⟨w, A, n, L, b, im, wi, f, I, J, K⟩ := X9
  refine aL1 dL_law__2371 ?_
  refine invV0 rfl dL_law__2372 kL_278 G.1.o (Nat.le_of_ble_eq_true rfl) (Nat.zero_le _) (Nat.zero_le _) (AG_twins G I J K (fun h1 v A9 => konG G.1.1 ?_))
  refine aL2 dL_law__2375 ?_
  refine invV0 rfl dL_law__2376 kL_281 G.2.1.o (Nat.le_of_ble_eq_true rfl) (Nat.zero_le _) (Nat.zero_le _) (A9 _ (fun h2 ix9 => konI ?_))
  exact R_icmp_eq dL_law__2379 (fun _ => Run.le (by omega) (by omega) (LK _ _ _ ix9)) (fun e => absurd rfl e)
theorem LC_42 {g : Gs} {h : Hc} {P : Po} {kc ks i : Nat} {a5 a6 : AV} (G : G9 g) (X9 : IX h) (hi : i + 6 ≤ g.2.2.1) (hl : g.2.2.1 ≤ 3072) (hz : ∀ i, in32 (g.2.2.2 i)) (k4 : 4 ≤ kc) (s24 : 24 ≤ ks) (LK : ∀ h' b5 b6, IX h' → Run 45 (kc - 4) (ks - 24) mL_law_ 2859 [vX 0, vR 0, vR 281, vR 300, vI (i : Int), b5, b6] [] g h' P) : Run 45 kc ks mL_law_ 2384 [vX 0, vR 0, vR 281, vR 300, vI (i : Int), a5, a6] [] g h P := by
  obtain ⟨w, A, n, L, b, im, wi, f, I, J, K⟩ := X9
  refine aL1 dL_law__2384 ?_
  refine sarg1 dL_law__2385 dL_law__2386 dL_law__2388 dL_law__2389 dL_law__2390 hi hl ?_
  refine sarg2 dL_law__2391 dL_law__2392 dL_law__2394 dL_law__2395 dL_law__2396 hi hl ?_
  refine aL3 dL_law__2397 ?_
  refine R_invHg (av := [vR 0, vI (g.2.2.2 (i + 1)), vI (g.2.2.2 (i + 2)), vR 300]) (st := []) rfl dL_law__2398 kL_282 rfl (Nat.le_of_ble_eq_true rfl) (mc := 2) (ms := 12) (by omega) (by omega) (C_L_ahead G.1.o G.2.2 G.1.1 (AG_ahead G I J K (fun h1 c A9 => konG G.1.1 ?_)))
  refine iS5 dL_law__2401 ?_
  refine aL2 dL_law__2403 ?_
  refine sarg1 dL_law__2404 dL_law__2405 dL_law__2407 dL_law__2408 dL_law__2409 hi hl ?_
  refine sarg2 dL_law__2410 dL_law__2411 dL_law__2413 dL_law__2414 dL_law__2415 hi hl ?_
  refine invV2 rfl dL_law__2416 kL_284 G.2.1.o (Nat.le_of_ble_eq_true rfl) (Nat.zero_le _) (Nat.zero_le _) (A9 _ (fun h2 r ix9 t9 o9 => konI ?_))
  refine iS6 dL_law__2419 ?_
  refine aL2 dL_law__2421 ?_
  refine invV0 rfl dL_law__2422 kL_146 G.2.1.o (Nat.le_of_ble_eq_true rfl) (Nat.zero_le _) (Nat.zero_le _) (C_X12_thrown (d := 44) (M := 281) G.2.1 (konI ?_))
  rw [t9]
  refine iL5 dL_law__2425 ?_
  refine R_icmp_eq dL_law__2427 (fun _ => ?_) (fun e => absurd rfl e)
  refine iL5 dL_law__2432 ?_
  refine R_if_ne dL_law__2434 (fun ec => ?_) (fun ec => ?_)
  · refine R_goto dL_law__2449 ?_
    exact Run.le (by omega) (by omega) (LK _ _ _ ix9)
  · have o8 := o9 ec
    refine aL3 dL_law__2437 ?_
    refine R_iconst_0 dL_law__2438 ?_
    refine R_lald dL_law__2439 G.2.2 (Int.le_refl 0) (by decide) ?_
    rw [show h2 300 (0 : Int).toNat = r from o8]
    refine iL6 dL_law__2440 ?_
    refine R_i2l dL_law__2442 ?_
    refine R_lcmp dL_law__2443 ?_
    rw [cmpL_self]
    refine R_if_eq dL_law__2444 (fun _ => ?_) (fun e => absurd rfl e)
    refine R_goto dL_law__2449 ?_
    exact Run.le (by omega) (by omega) (LK _ _ _ ix9)
theorem LC_43 {g : Gs} {h : Hc} {P : Po} {kc ks i : Nat} {a5 a6 : AV} (G : G9 g) (X9 : IX h) (hi : i + 6 ≤ g.2.2.1) (hl : g.2.2.1 ≤ 3072) (hz : ∀ i, in32 (g.2.2.2 i)) (k4 : 4 ≤ kc) (s24 : 24 ≤ ks) (LK : ∀ h' b5 b6, IX h' → Run 45 (kc - 4) (ks - 24) mL_law_ 2859 [vX 0, vR 0, vR 281, vR 300, vI (i : Int), b5, b6] [] g h' P) : Run 45 kc ks mL_law_ 2452 [vX 0, vR 0, vR 281, vR 300, vI (i : Int), a5, a6] [] g h P := by
  obtain ⟨w, A, n, L, b, im, wi, f, I, J, K⟩ := X9
  refine aL1 dL_law__2452 ?_
  refine sarg1 dL_law__2453 dL_law__2454 dL_law__2456 dL_law__2457 dL_law__2458 hi hl ?_
  refine sarg2 dL_law__2459 dL_law__2460 dL_law__2462 dL_law__2463 dL_law__2464 hi hl ?_
  refine R_if_eq dL_law__2465 (fun e2 => ?_) (fun e2 => ?_)
  · refine R_iconst_0 dL_law__2472 ?_
    refine aL3 dL_law__2473 ?_
    refine R_invHg (av := [vR 0, vI (g.2.2.2 (i + 1)), vI 0, vR 300]) (st := []) rfl dL_law__2474 kL_285 rfl (Nat.le_of_ble_eq_true rfl) (mc := 1) (ms := 6) (by omega) (by omega) (C_L_trial G.1.o G.2.2 G.1.1 (AG_trial (b9 := false) G I J K (fun h1 c A9 => konG G.1.1 ?_)))
    refine iS5 dL_law__2477 ?_
    refine aL2 dL_law__2479 ?_
    refine sarg1 dL_law__2480 dL_law__2481 dL_law__2483 dL_law__2484 dL_law__2485 hi hl ?_
    refine sarg2 dL_law__2486 dL_law__2487 dL_law__2489 dL_law__2490 dL_law__2491 hi hl ?_
    refine R_if_eq dL_law__2492 (fun q => ?_) (fun q => ?_)
    · refine R_iconst_0 dL_law__2499 ?_
      refine invV2 rfl dL_law__2500 kL_287 G.2.1.o (Nat.le_of_ble_eq_true rfl) (Nat.zero_le _) (Nat.zero_le _) (A9 _ (fun h2 r ix9 t9 o9 => konI ?_))
      refine iS6 dL_law__2503 ?_
      refine aL2 dL_law__2505 ?_
      refine invV0 rfl dL_law__2506 kL_146 G.2.1.o (Nat.le_of_ble_eq_true rfl) (Nat.zero_le _) (Nat.zero_le _) (C_X12_thrown (d := 44) (M := 281) G.2.1 (konI ?_))
      rw [t9]
      refine iL5 dL_law__2509 ?_
      refine R_icmp_eq dL_law__2511 (fun _ => ?_) (fun e => absurd rfl e)
      refine iL5 dL_law__2516 ?_
      refine R_if_ne dL_law__2518 (fun ec => ?_) (fun ec => ?_)
      · refine R_goto dL_law__2533 ?_
        exact Run.le (by omega) (by omega) (LK _ _ _ ix9)
      · have o8 := o9 ec
        refine aL3 dL_law__2521 ?_
        refine R_iconst_0 dL_law__2522 ?_
        refine R_lald dL_law__2523 G.2.2 (Int.le_refl 0) (by decide) ?_
        rw [show h2 300 (0 : Int).toNat = r from o8]
        refine iL6 dL_law__2524 ?_
        refine R_i2l dL_law__2526 ?_
        refine R_lcmp dL_law__2527 ?_
        rw [cmpL_self]
        refine R_if_eq dL_law__2528 (fun _ => ?_) (fun e => absurd rfl e)
        refine R_goto dL_law__2533 ?_
        exact Run.le (by omega) (by omega) (LK _ _ _ ix9)
    · exact absurd e2 q
  · refine R_iconst_1 dL_law__2468 ?_
    refine R_goto dL_law__2469 ?_
    refine aL3 dL_law__2473 ?_
    refine R_invHg (av := [vR 0, vI (g.2.2.2 (i + 1)), vI 1, vR 300]) (st := []) rfl dL_law__2474 kL_285 rfl (Nat.le_of_ble_eq_true rfl) (mc := 1) (ms := 6) (by omega) (by omega) (C_L_trial G.1.o G.2.2 G.1.1 (AG_trial (b9 := true) G I J K (fun h1 c A9 => konG G.1.1 ?_)))
    refine iS5 dL_law__2477 ?_
    refine aL2 dL_law__2479 ?_
    refine sarg1 dL_law__2480 dL_law__2481 dL_law__2483 dL_law__2484 dL_law__2485 hi hl ?_
    refine sarg2 dL_law__2486 dL_law__2487 dL_law__2489 dL_law__2490 dL_law__2491 hi hl ?_
    refine R_if_eq dL_law__2492 (fun q => ?_) (fun q => ?_)
    · exact absurd q e2
    · refine R_iconst_1 dL_law__2495 ?_
      refine R_goto dL_law__2496 ?_
      refine invV2 rfl dL_law__2500 kL_287 G.2.1.o (Nat.le_of_ble_eq_true rfl) (Nat.zero_le _) (Nat.zero_le _) (A9 _ (fun h2 r ix9 t9 o9 => konI ?_))
      refine iS6 dL_law__2503 ?_
      refine aL2 dL_law__2505 ?_
      refine invV0 rfl dL_law__2506 kL_146 G.2.1.o (Nat.le_of_ble_eq_true rfl) (Nat.zero_le _) (Nat.zero_le _) (C_X12_thrown (d := 44) (M := 281) G.2.1 (konI ?_))
      rw [t9]
      refine iL5 dL_law__2509 ?_
      refine R_icmp_eq dL_law__2511 (fun _ => ?_) (fun e => absurd rfl e)
      refine iL5 dL_law__2516 ?_
      refine R_if_ne dL_law__2518 (fun ec => ?_) (fun ec => ?_)
      · refine R_goto dL_law__2533 ?_
        exact Run.le (by omega) (by omega) (LK _ _ _ ix9)
      · have o8 := o9 ec
        refine aL3 dL_law__2521 ?_
        refine R_iconst_0 dL_law__2522 ?_
        refine R_lald dL_law__2523 G.2.2 (Int.le_refl 0) (by decide) ?_
        rw [show h2 300 (0 : Int).toNat = r from o8]
        refine iL6 dL_law__2524 ?_
        refine R_i2l dL_law__2526 ?_
        refine R_lcmp dL_law__2527 ?_
        rw [cmpL_self]
        refine R_if_eq dL_law__2528 (fun _ => ?_) (fun e => absurd rfl e)
        refine R_goto dL_law__2533 ?_
        exact Run.le (by omega) (by omega) (LK _ _ _ ix9)
theorem LC_44 {g : Gs} {h : Hc} {P : Po} {kc ks i : Nat} {a5 a6 : AV} (G : G9 g) (X9 : IX h) (hi : i + 6 ≤ g.2.2.1) (hl : g.2.2.1 ≤ 3072) (hz : ∀ i, in32 (g.2.2.2 i)) (k4 : 4 ≤ kc) (s24 : 24 ≤ ks) (LK : ∀ h' b5 b6, IX h' → Run 45 (kc - 4) (ks - 24) mL_law_ 2859 [vX 0, vR 0, vR 281, vR 300, vI (i : Int), b5, b6] [] g h' P) : Run 45 kc ks mL_law_ 2536 [vX 0, vR 0, vR 281, vR 300, vI (i : Int), a5, a6] [] g h P := by
  obtain ⟨w, A, n, L, b, im, wi, f, I, J, K⟩ := X9
  refine aL1 dL_law__2536 ?_
  refine sarg1 dL_law__2537 dL_law__2538 dL_law__2540 dL_law__2541 dL_law__2542 hi hl ?_
  refine sarg2 dL_law__2543 dL_law__2544 dL_law__2546 dL_law__2547 dL_law__2548 hi hl ?_
  refine R_if_eq dL_law__2549 (fun e2 => ?_) (fun e2 => ?_)
  · refine R_iconst_0 dL_law__2556 ?_
    refine aL3 dL_law__2557 ?_
    refine R_invHg (av := [vR 0, vI (g.2.2.2 (i + 1)), vI 0, vR 300]) (st := []) rfl dL_law__2558 kL_288 rfl (Nat.le_of_ble_eq_true rfl) (mc := 1) (ms := 6) (by omega) (by omega) (C_L_span G.1.o G.2.2 G.1.1 (AG_span (b9 := false) G I J K (fun h1 c A9 => konG G.1.1 ?_)))
    refine iS5 dL_law__2561 ?_
    refine aL2 dL_law__2563 ?_
    refine sarg1 dL_law__2564 dL_law__2565 dL_law__2567 dL_law__2568 dL_law__2569 hi hl ?_
    refine sarg2 dL_law__2570 dL_law__2571 dL_law__2573 dL_law__2574 dL_law__2575 hi hl ?_
    refine R_if_eq dL_law__2576 (fun q => ?_) (fun q => ?_)
    · refine R_iconst_0 dL_law__2583 ?_
      refine invV2 rfl dL_law__2584 kL_290 G.2.1.o (Nat.le_of_ble_eq_true rfl) (Nat.zero_le _) (Nat.zero_le _) (A9 _ (fun h2 r ix9 t9 o9 => konI ?_))
      refine iS6 dL_law__2587 ?_
      refine aL2 dL_law__2589 ?_
      refine invV0 rfl dL_law__2590 kL_146 G.2.1.o (Nat.le_of_ble_eq_true rfl) (Nat.zero_le _) (Nat.zero_le _) (C_X12_thrown (d := 44) (M := 281) G.2.1 (konI ?_))
      rw [t9]
      refine iL5 dL_law__2593 ?_
      refine R_icmp_eq dL_law__2595 (fun _ => ?_) (fun e => absurd rfl e)
      refine iL5 dL_law__2600 ?_
      refine R_if_ne dL_law__2602 (fun ec => ?_) (fun ec => ?_)
      · refine R_goto dL_law__2617 ?_
        exact Run.le (by omega) (by omega) (LK _ _ _ ix9)
      · have o8 := o9 ec
        refine aL3 dL_law__2605 ?_
        refine R_iconst_0 dL_law__2606 ?_
        refine R_lald dL_law__2607 G.2.2 (Int.le_refl 0) (by decide) ?_
        rw [show h2 300 (0 : Int).toNat = r from o8]
        refine iL6 dL_law__2608 ?_
        refine R_i2l dL_law__2610 ?_
        refine R_lcmp dL_law__2611 ?_
        rw [cmpL_self]
        refine R_if_eq dL_law__2612 (fun _ => ?_) (fun e => absurd rfl e)
        refine R_goto dL_law__2617 ?_
        exact Run.le (by omega) (by omega) (LK _ _ _ ix9)
    · exact absurd e2 q
  · refine R_iconst_1 dL_law__2552 ?_
    refine R_goto dL_law__2553 ?_
    refine aL3 dL_law__2557 ?_
    refine R_invHg (av := [vR 0, vI (g.2.2.2 (i + 1)), vI 1, vR 300]) (st := []) rfl dL_law__2558 kL_288 rfl (Nat.le_of_ble_eq_true rfl) (mc := 1) (ms := 6) (by omega) (by omega) (C_L_span G.1.o G.2.2 G.1.1 (AG_span (b9 := true) G I J K (fun h1 c A9 => konG G.1.1 ?_)))
    refine iS5 dL_law__2561 ?_
    refine aL2 dL_law__2563 ?_
    refine sarg1 dL_law__2564 dL_law__2565 dL_law__2567 dL_law__2568 dL_law__2569 hi hl ?_
    refine sarg2 dL_law__2570 dL_law__2571 dL_law__2573 dL_law__2574 dL_law__2575 hi hl ?_
    refine R_if_eq dL_law__2576 (fun q => ?_) (fun q => ?_)
    · exact absurd q e2
    · refine R_iconst_1 dL_law__2579 ?_
      refine R_goto dL_law__2580 ?_
      refine invV2 rfl dL_law__2584 kL_290 G.2.1.o (Nat.le_of_ble_eq_true rfl) (Nat.zero_le _) (Nat.zero_le _) (A9 _ (fun h2 r ix9 t9 o9 => konI ?_))
      refine iS6 dL_law__2587 ?_
      refine aL2 dL_law__2589 ?_
      refine invV0 rfl dL_law__2590 kL_146 G.2.1.o (Nat.le_of_ble_eq_true rfl) (Nat.zero_le _) (Nat.zero_le _) (C_X12_thrown (d := 44) (M := 281) G.2.1 (konI ?_))
      rw [t9]
      refine iL5 dL_law__2593 ?_
      refine R_icmp_eq dL_law__2595 (fun _ => ?_) (fun e => absurd rfl e)
      refine iL5 dL_law__2600 ?_
      refine R_if_ne dL_law__2602 (fun ec => ?_) (fun ec => ?_)
      · refine R_goto dL_law__2617 ?_
        exact Run.le (by omega) (by omega) (LK _ _ _ ix9)
      · have o8 := o9 ec
        refine aL3 dL_law__2605 ?_
        refine R_iconst_0 dL_law__2606 ?_
        refine R_lald dL_law__2607 G.2.2 (Int.le_refl 0) (by decide) ?_
        rw [show h2 300 (0 : Int).toNat = r from o8]
        refine iL6 dL_law__2608 ?_
        refine R_i2l dL_law__2610 ?_
        refine R_lcmp dL_law__2611 ?_
        rw [cmpL_self]
        refine R_if_eq dL_law__2612 (fun _ => ?_) (fun e => absurd rfl e)
        refine R_goto dL_law__2617 ?_
        exact Run.le (by omega) (by omega) (LK _ _ _ ix9)
theorem LC_45 {g : Gs} {h : Hc} {P : Po} {kc ks i : Nat} {a5 a6 : AV} (G : G9 g) (X9 : IX h) (hi : i + 6 ≤ g.2.2.1) (hl : g.2.2.1 ≤ 3072) (hz : ∀ i, in32 (g.2.2.2 i)) (k4 : 4 ≤ kc) (s24 : 24 ≤ ks) (LK : ∀ h' b5 b6, IX h' → Run 45 (kc - 4) (ks - 24) mL_law_ 2859 [vX 0, vR 0, vR 281, vR 300, vI (i : Int), b5, b6] [] g h' P) : Run 45 kc ks mL_law_ 2620 [vX 0, vR 0, vR 281, vR 300, vI (i : Int), a5, a6] [] g h P := by
  obtain ⟨w, A, n, L, b, im, wi, f, I, J, K⟩ := X9
  refine aL1 dL_law__2620 ?_
  refine sarg1 dL_law__2621 dL_law__2622 dL_law__2624 dL_law__2625 dL_law__2626 hi hl ?_
  refine sarg2 dL_law__2627 dL_law__2628 dL_law__2630 dL_law__2631 dL_law__2632 hi hl ?_
  refine R_if_eq dL_law__2633 (fun e2 => ?_) (fun e2 => ?_)
  · refine R_iconst_0 dL_law__2640 ?_
    refine aL3 dL_law__2641 ?_
    refine R_invHg (av := [vR 0, vI (g.2.2.2 (i + 1)), vI 0, vR 300]) (st := []) rfl dL_law__2642 kL_291 rfl (Nat.le_of_ble_eq_true rfl) (mc := 1) (ms := 6) (by omega) (by omega) (C_L_led G.1.o G.2.2 G.1.1 (AG_led (b9 := false) G I J K (fun h1 c A9 => konG G.1.1 ?_)))
    refine iS5 dL_law__2645 ?_
    refine aL2 dL_law__2647 ?_
    refine sarg1 dL_law__2648 dL_law__2649 dL_law__2651 dL_law__2652 dL_law__2653 hi hl ?_
    refine sarg2 dL_law__2654 dL_law__2655 dL_law__2657 dL_law__2658 dL_law__2659 hi hl ?_
    refine R_if_eq dL_law__2660 (fun q => ?_) (fun q => ?_)
    · refine R_iconst_0 dL_law__2667 ?_
      refine invV2 rfl dL_law__2668 kL_293 G.2.1.o (Nat.le_of_ble_eq_true rfl) (Nat.zero_le _) (Nat.zero_le _) (A9 _ (fun h2 r ix9 t9 o9 => konI ?_))
      refine iS6 dL_law__2671 ?_
      refine aL2 dL_law__2673 ?_
      refine invV0 rfl dL_law__2674 kL_146 G.2.1.o (Nat.le_of_ble_eq_true rfl) (Nat.zero_le _) (Nat.zero_le _) (C_X12_thrown (d := 44) (M := 281) G.2.1 (konI ?_))
      rw [t9]
      refine iL5 dL_law__2677 ?_
      refine R_icmp_eq dL_law__2679 (fun _ => ?_) (fun e => absurd rfl e)
      refine iL5 dL_law__2684 ?_
      refine R_if_ne dL_law__2686 (fun ec => ?_) (fun ec => ?_)
      · refine R_goto dL_law__2701 ?_
        exact Run.le (by omega) (by omega) (LK _ _ _ ix9)
      · have o8 := o9 ec
        refine aL3 dL_law__2689 ?_
        refine R_iconst_0 dL_law__2690 ?_
        refine R_lald dL_law__2691 G.2.2 (Int.le_refl 0) (by decide) ?_
        rw [show h2 300 (0 : Int).toNat = r from o8]
        refine iL6 dL_law__2692 ?_
        refine R_i2l dL_law__2694 ?_
        refine R_lcmp dL_law__2695 ?_
        rw [cmpL_self]
        refine R_if_eq dL_law__2696 (fun _ => ?_) (fun e => absurd rfl e)
        refine R_goto dL_law__2701 ?_
        exact Run.le (by omega) (by omega) (LK _ _ _ ix9)
    · exact absurd e2 q
  · refine R_iconst_1 dL_law__2636 ?_
    refine R_goto dL_law__2637 ?_
    refine aL3 dL_law__2641 ?_
    refine R_invHg (av := [vR 0, vI (g.2.2.2 (i + 1)), vI 1, vR 300]) (st := []) rfl dL_law__2642 kL_291 rfl (Nat.le_of_ble_eq_true rfl) (mc := 1) (ms := 6) (by omega) (by omega) (C_L_led G.1.o G.2.2 G.1.1 (AG_led (b9 := true) G I J K (fun h1 c A9 => konG G.1.1 ?_)))
    refine iS5 dL_law__2645 ?_
    refine aL2 dL_law__2647 ?_
    refine sarg1 dL_law__2648 dL_law__2649 dL_law__2651 dL_law__2652 dL_law__2653 hi hl ?_
    refine sarg2 dL_law__2654 dL_law__2655 dL_law__2657 dL_law__2658 dL_law__2659 hi hl ?_
    refine R_if_eq dL_law__2660 (fun q => ?_) (fun q => ?_)
    · exact absurd q e2
    · refine R_iconst_1 dL_law__2663 ?_
      refine R_goto dL_law__2664 ?_
      refine invV2 rfl dL_law__2668 kL_293 G.2.1.o (Nat.le_of_ble_eq_true rfl) (Nat.zero_le _) (Nat.zero_le _) (A9 _ (fun h2 r ix9 t9 o9 => konI ?_))
      refine iS6 dL_law__2671 ?_
      refine aL2 dL_law__2673 ?_
      refine invV0 rfl dL_law__2674 kL_146 G.2.1.o (Nat.le_of_ble_eq_true rfl) (Nat.zero_le _) (Nat.zero_le _) (C_X12_thrown (d := 44) (M := 281) G.2.1 (konI ?_))
      rw [t9]
      refine iL5 dL_law__2677 ?_
      refine R_icmp_eq dL_law__2679 (fun _ => ?_) (fun e => absurd rfl e)
      refine iL5 dL_law__2684 ?_
      refine R_if_ne dL_law__2686 (fun ec => ?_) (fun ec => ?_)
      · refine R_goto dL_law__2701 ?_
        exact Run.le (by omega) (by omega) (LK _ _ _ ix9)
      · have o8 := o9 ec
        refine aL3 dL_law__2689 ?_
        refine R_iconst_0 dL_law__2690 ?_
        refine R_lald dL_law__2691 G.2.2 (Int.le_refl 0) (by decide) ?_
        rw [show h2 300 (0 : Int).toNat = r from o8]
        refine iL6 dL_law__2692 ?_
        refine R_i2l dL_law__2694 ?_
        refine R_lcmp dL_law__2695 ?_
        rw [cmpL_self]
        refine R_if_eq dL_law__2696 (fun _ => ?_) (fun e => absurd rfl e)
        refine R_goto dL_law__2701 ?_
        exact Run.le (by omega) (by omega) (LK _ _ _ ix9)
theorem LC_46 {g : Gs} {h : Hc} {P : Po} {kc ks i : Nat} {a5 a6 : AV} (G : G9 g) (X9 : IX h) (hi : i + 6 ≤ g.2.2.1) (hl : g.2.2.1 ≤ 3072) (hz : ∀ i, in32 (g.2.2.2 i)) (k4 : 4 ≤ kc) (s24 : 24 ≤ ks) (LK : ∀ h' b5 b6, IX h' → Run 45 (kc - 4) (ks - 24) mL_law_ 2859 [vX 0, vR 0, vR 281, vR 300, vI (i : Int), b5, b6] [] g h' P) : Run 45 kc ks mL_law_ 2704 [vX 0, vR 0, vR 281, vR 300, vI (i : Int), a5, a6] [] g h P := by
  obtain ⟨w, A, n, L, b, im, wi, f, I, J, K⟩ := X9
  refine aL1 dL_law__2704 ?_
  refine sarg1 dL_law__2705 dL_law__2706 dL_law__2708 dL_law__2709 dL_law__2710 hi hl ?_
  refine sarg2 dL_law__2711 dL_law__2712 dL_law__2714 dL_law__2715 dL_law__2716 hi hl ?_
  refine aL3 dL_law__2717 ?_
  refine R_invHg (av := [vR 0, vI (g.2.2.2 (i + 1)), vI (g.2.2.2 (i + 2)), vR 300]) (st := []) rfl dL_law__2718 kL_294 rfl (Nat.le_of_ble_eq_true rfl) (mc := 1) (ms := 6) (by omega) (by omega) (C_L_log G.1.o G.2.2 G.1.1 (AG_log G I J K (fun h1 c A9 => konG G.1.1 ?_)))
  refine iS5 dL_law__2721 ?_
  refine aL2 dL_law__2723 ?_
  refine sarg1 dL_law__2724 dL_law__2725 dL_law__2727 dL_law__2728 dL_law__2729 hi hl ?_
  refine sarg2 dL_law__2730 dL_law__2731 dL_law__2733 dL_law__2734 dL_law__2735 hi hl ?_
  refine invV2 rfl dL_law__2736 kL_296 G.2.1.o (Nat.le_of_ble_eq_true rfl) (Nat.zero_le _) (Nat.zero_le _) (A9 _ (fun h2 r ix9 t9 o9 => konI ?_))
  refine iS6 dL_law__2739 ?_
  refine aL2 dL_law__2741 ?_
  refine invV0 rfl dL_law__2742 kL_146 G.2.1.o (Nat.le_of_ble_eq_true rfl) (Nat.zero_le _) (Nat.zero_le _) (C_X12_thrown (d := 44) (M := 281) G.2.1 (konI ?_))
  rw [t9]
  refine iL5 dL_law__2745 ?_
  refine R_icmp_eq dL_law__2747 (fun _ => ?_) (fun e => absurd rfl e)
  refine iL5 dL_law__2752 ?_
  refine R_if_ne dL_law__2754 (fun ec => ?_) (fun ec => ?_)
  · refine R_goto dL_law__2769 ?_
    exact Run.le (by omega) (by omega) (LK _ _ _ ix9)
  · have o8 := o9 ec
    refine aL3 dL_law__2757 ?_
    refine R_iconst_0 dL_law__2758 ?_
    refine R_lald dL_law__2759 G.2.2 (Int.le_refl 0) (by decide) ?_
    rw [show h2 300 (0 : Int).toNat = r from o8]
    refine iL6 dL_law__2760 ?_
    refine R_i2l dL_law__2762 ?_
    refine R_lcmp dL_law__2763 ?_
    rw [cmpL_self]
    refine R_if_eq dL_law__2764 (fun _ => ?_) (fun e => absurd rfl e)
    refine R_goto dL_law__2769 ?_
    exact Run.le (by omega) (by omega) (LK _ _ _ ix9)
theorem LC_47 {g : Gs} {h : Hc} {P : Po} {kc ks i : Nat} {a5 a6 : AV} (G : G9 g) (X9 : IX h) (hi : i + 6 ≤ g.2.2.1) (hl : g.2.2.1 ≤ 3072) (hz : ∀ i, in32 (g.2.2.2 i)) (k4 : 4 ≤ kc) (s24 : 24 ≤ ks) (LK : ∀ h' b5 b6, IX h' → Run 45 (kc - 4) (ks - 24) mL_law_ 2859 [vX 0, vR 0, vR 281, vR 300, vI (i : Int), b5, b6] [] g h' P) : Run 45 kc ks mL_law_ 2772 [vX 0, vR 0, vR 281, vR 300, vI (i : Int), a5, a6] [] g h P := by
  obtain ⟨w, A, n, L, b, im, wi, f, I, J, K⟩ := X9
  refine aL1 dL_law__2772 ?_
  refine sarg1 dL_law__2773 dL_law__2774 dL_law__2776 dL_law__2777 dL_law__2778 hi hl ?_
  refine invV1 rfl dL_law__2779 kL_297 G.1.o (Nat.le_of_ble_eq_true rfl) (Nat.zero_le _) (Nat.zero_le _) (AG_seed G I J K (hz _) (fun h1 v A9 => konG G.1.1 ?_))
  refine aL2 dL_law__2782 ?_
  refine sarg1 dL_law__2783 dL_law__2784 dL_law__2786 dL_law__2787 dL_law__2788 hi hl ?_
  refine invV1 rfl dL_law__2789 kL_300 G.2.1.o (Nat.le_of_ble_eq_true rfl) (Nat.zero_le _) (Nat.zero_le _) (A9 _ (fun h2 ix9 => konI ?_))
  exact R_icmp_eq dL_law__2792 (fun _ => Run.le (by omega) (by omega) (LK _ _ _ ix9)) (fun e => absurd rfl e)
theorem LC_48 {g : Gs} {h : Hc} {P : Po} {kc ks i : Nat} {a5 a6 : AV} (G : G9 g) (X9 : IX h) (hi : i + 6 ≤ g.2.2.1) (hl : g.2.2.1 ≤ 3072) (hz : ∀ i, in32 (g.2.2.2 i)) (k4 : 4 ≤ kc) (s24 : 24 ≤ ks) (LK : ∀ h' b5 b6, IX h' → Run 45 (kc - 4) (ks - 24) mL_law_ 2859 [vX 0, vR 0, vR 281, vR 300, vI (i : Int), b5, b6] [] g h' P) : Run 45 kc ks mL_law_ 2797 [vX 0, vR 0, vR 281, vR 300, vI (i : Int), a5, a6] [] g h P := by
  obtain ⟨w, A, n, L, b, im, wi, f, I, J, K⟩ := X9
  refine aL1 dL_law__2797 ?_
  refine invV0 rfl dL_law__2798 kL_301 G.1.o (Nat.le_of_ble_eq_true rfl) (Nat.zero_le _) (Nat.zero_le _) (AG_undo G I J K (fun h1 v A9 => konG G.1.1 ?_))
  refine aL2 dL_law__2801 ?_
  refine invV0 rfl dL_law__2802 kL_305 G.2.1.o (Nat.le_of_ble_eq_true rfl) (Nat.zero_le _) (Nat.zero_le _) (A9 _ (fun h2 ix9 => konI ?_))
  exact R_icmp_eq dL_law__2805 (fun _ => Run.le (by omega) (by omega) (LK _ _ _ ix9)) (fun e => absurd rfl e)
theorem LC_49 {g : Gs} {h : Hc} {P : Po} {kc ks i : Nat} {a5 a6 : AV} (G : G9 g) (X9 : IX h) (hi : i + 6 ≤ g.2.2.1) (hl : g.2.2.1 ≤ 3072) (hz : ∀ i, in32 (g.2.2.2 i)) (k4 : 4 ≤ kc) (s24 : 24 ≤ ks) (LK : ∀ h' b5 b6, IX h' → Run 45 (kc - 4) (ks - 24) mL_law_ 2859 [vX 0, vR 0, vR 281, vR 300, vI (i : Int), b5, b6] [] g h' P) : Run 45 kc ks mL_law_ 2810 [vX 0, vR 0, vR 281, vR 300, vI (i : Int), a5, a6] [] g h P := by
  obtain ⟨w, A, n, L, b, im, wi, f, I, J, K⟩ := X9
  refine aL1 dL_law__2810 ?_
  refine invV0 rfl dL_law__2811 kL_306 G.1.o (Nat.le_of_ble_eq_true rfl) (Nat.zero_le _) (Nat.zero_le _) (AG_image G I J K (fun h1 A9 => konGu G.1.1 ?_))
  refine aL2 dL_law__2814 ?_
  refine invV0 rfl dL_law__2815 kL_309 G.2.1.o (Nat.le_of_ble_eq_true rfl) (Nat.zero_le _) (Nat.zero_le _) (A9 _ (fun h2 ix9 => konGu G.1.1 ?_))
  refine R_goto dL_law__2818 ?_
  exact Run.le (by omega) (by omega) (LK _ _ _ ix9)
theorem LC_50 {g : Gs} {h : Hc} {P : Po} {kc ks i : Nat} {a5 a6 : AV} (G : G9 g) (X9 : IX h) (hi : i + 6 ≤ g.2.2.1) (hl : g.2.2.1 ≤ 3072) (hz : ∀ i, in32 (g.2.2.2 i)) (k4 : 4 ≤ kc) (s24 : 24 ≤ ks) (LK : ∀ h' b5 b6, IX h' → Run 45 (kc - 4) (ks - 24) mL_law_ 2859 [vX 0, vR 0, vR 281, vR 300, vI (i : Int), b5, b6] [] g h' P) : Run 45 kc ks mL_law_ 2821 [vX 0, vR 0, vR 281, vR 300, vI (i : Int), a5, a6] [] g h P := by
  obtain ⟨w, A, n, L, b, im, wi, f, I, J, K⟩ := X9
  refine aL1 dL_law__2821 ?_
  refine invV0 rfl dL_law__2822 kL_310 G.1.o (Nat.le_of_ble_eq_true rfl) (Nat.zero_le _) (Nat.zero_le _) (AG_back G I J K (fun h1 v A9 => konG G.1.1 ?_))
  refine aL2 dL_law__2825 ?_
  refine invV0 rfl dL_law__2826 kL_313 G.2.1.o (Nat.le_of_ble_eq_true rfl) (Nat.zero_le _) (Nat.zero_le _) (A9 _ (fun h2 ix9 => konI ?_))
  exact R_icmp_eq dL_law__2829 (fun _ => Run.le (by omega) (by omega) (LK _ _ _ ix9)) (fun e => absurd rfl e)
theorem LC_51 {g : Gs} {h : Hc} {P : Po} {kc ks i : Nat} {a5 a6 : AV} (G : G9 g) (X9 : IX h) (hi : i + 6 ≤ g.2.2.1) (hl : g.2.2.1 ≤ 3072) (hz : ∀ i, in32 (g.2.2.2 i)) (k4 : 4 ≤ kc) (s24 : 24 ≤ ks) (LK : ∀ h' b5 b6, IX h' → Run 45 (kc - 4) (ks - 24) mL_law_ 2859 [vX 0, vR 0, vR 281, vR 300, vI (i : Int), b5, b6] [] g h' P) : Run 45 kc ks mL_law_ 2834 [vX 0, vR 0, vR 281, vR 300, vI (i : Int), a5, a6] [] g h P := by
  obtain ⟨w, A, n, L, b, im, wi, f, I, J, K⟩ := X9
  refine aL1 dL_law__2834 ?_
  refine sarg1 dL_law__2835 dL_law__2836 dL_law__2838 dL_law__2839 dL_law__2840 hi hl ?_
  refine invV1 rfl dL_law__2841 kL_314 G.1.o (Nat.le_of_ble_eq_true rfl) (Nat.zero_le _) (Nat.zero_le _) (AG_count G I J K (fun h1 v A9 => konG G.1.1 ?_))
  refine aL2 dL_law__2844 ?_
  refine sarg1 dL_law__2845 dL_law__2846 dL_law__2848 dL_law__2849 dL_law__2850 hi hl ?_
  refine invV1 rfl dL_law__2851 kL_317 G.2.1.o (Nat.le_of_ble_eq_true rfl) (Nat.zero_le _) (Nat.zero_le _) (A9 _ (fun h2 ix9 => konI ?_))
  exact R_icmp_eq dL_law__2854 (fun _ => Run.le (by omega) (by omega) (LK _ _ _ ix9)) (fun e => absurd rfl e)
