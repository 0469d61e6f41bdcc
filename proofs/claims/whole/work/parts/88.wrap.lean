/-! THE LAW'S WRAPPERS -/
theorem Call.mono {d mc ms : Nat} {y : Mth} {av : List AV} {g : Gs} {h : Hc} {P P' : Po} (H : ∀ o g' h', P o g' h' → P' o g' h') (K : Call d mc ms y av g h P) : Call d mc ms y av g h P' := by
  intro z l hst hav p e ha hb hc s m args below hf happ hP _t
  obtain ⟨n, o, h1, h2, h3, hQ⟩ := K z l hst hav p e ha hb hc s m args below hf happ hP trivial
  refine ⟨n, o, h1, h2, h3, ?_⟩
  rcases hQ with ⟨⟨⟨r, g', h', a1, a2, a3, a4⟩, hF⟩, hL⟩ | ⟨q, e1, E, ce, L, ⟨⟨g', h', a3, a4⟩, hF⟩, hr⟩
  · exact Or.inl ⟨⟨⟨r, g', h', a1, a2, a3, H _ _ _ a4⟩, hF⟩, hL⟩
  · exact Or.inr ⟨q, e1, E, ce, L, ⟨⟨g', h', a3, H _ _ _ a4⟩, hF⟩, hr⟩
theorem CallH.mono {d mc ms : Nat} {y : Mth} {av : List AV} {g : Gs} {h : Hc} {P P' : Po} (H : ∀ o g' h', P o g' h' → P' o g' h') (K : CallH d mc ms y av g h P) : CallH d mc ms y av g h P' := by
  intro z l hst hav p e ha hb hc s m args below hf happ hP _t
  obtain ⟨n, o, h1, h2, h3, hQ⟩ := K z l hst hav p e ha hb hc s m args below hf happ hP trivial
  refine ⟨n, o, h1, h2, h3, ?_⟩
  rcases hQ with ⟨⟨⟨r, g', h', a1, a2, a3, a4⟩, hF⟩, hL⟩ | ⟨q, e1, E, ce, L, ⟨⟨g', h', a3, a4⟩, hF⟩, hr⟩
  · exact Or.inl ⟨⟨⟨r, g', h', a1, a2, a3, H _ _ _ a4⟩, hF⟩, hL⟩
  · exact Or.inr ⟨q, e1, E, ce, L, ⟨⟨g', h', a3, H _ _ _ a4⟩, hF⟩, hr⟩
/-- what a wrapper makes of its call's end: a value goes into out, a throw is a code -/
def WrJ (tb : List (String × Int)) (O : Nat) (g : Gs) (P : Po) : Po := fun o g' h' => g' = g ∧ (match o with
  | .inl none => False
  | .inl (some v) => ∃ i : Int, v = vI i ∧ P (.inl (some (vI 0))) g (updH h' O 0 i)
  | .inr E => ∃ c : Int, (E, c) ∈ tb ∧ P (.inl (some (vI c))) g h')
theorem updH_out {h : Hc} {O : Nat} {i : Int} : updH h O (0 : Int).toNat i = updH h O 0 i := rfl
def WrJZ (tb : List (String × Int)) (O : Nat) (g : Gs) (P : Po) : Po := fun o g' h' => g' = g ∧ (match o with
  | .inl none => False
  | .inl (some v) => ∃ b : Bool, v = vI (bI b) ∧ P (.inl (some (vI 0))) g (updH h' O 0 (bI b))
  | .inr E => ∃ c : Int, (E, c) ∈ tb ∧ P (.inl (some (vI c))) g h')
theorem catW_xIA {pc hp a b : Nat} {r : List (Nat × Nat × Nat × Nat)} (h : a ≤ pc ∧ pc < b) : Cat RL pc xIA hp ((a, b, hp, 13) :: r) := ⟨⟨h.1, h.2, by show (13 : Nat) ≠ 0; decide⟩, Or.inl ⟨"java/lang/IllegalArgumentException", (show Cond.classLink RL 13 "java/lang/IllegalArgumentException" ∈ lwg from lwg_t3 151 (by decide +kernel) rfl), lwg_t4 101 (by decide +kernel) rfl, rfl⟩⟩
theorem catW_xUO {pc hp a b : Nat} {r : List (Nat × Nat × Nat × Nat)} (h : a ≤ pc ∧ pc < b) : Cat RL pc xUO hp ((a, b, hp, 15) :: r) := ⟨⟨h.1, h.2, by show (15 : Nat) ≠ 0; decide⟩, Or.inl ⟨"java/lang/UnsupportedOperationException", (show Cond.classLink RL 15 "java/lang/UnsupportedOperationException" ∈ lwg from lwg_t3 152 (by decide +kernel) rfl), lwg_t4 167 (by decide +kernel) rfl, rfl⟩⟩
theorem catW_xIO {pc hp a b : Nat} {r : List (Nat × Nat × Nat × Nat)} (h : a ≤ pc ∧ pc < b) : Cat RL pc xIO hp ((a, b, hp, 24) :: r) := ⟨⟨h.1, h.2, by show (24 : Nat) ≠ 0; decide⟩, Or.inl ⟨"java/lang/IndexOutOfBoundsException", (show Cond.classLink RL 24 "java/lang/IndexOutOfBoundsException" ∈ lwg from lwg_t4 197 (by decide +kernel) rfl), lwg_t4 209 (by decide +kernel) rfl, rfl⟩⟩
theorem catW_xNE {pc hp a b : Nat} {r : List (Nat × Nat × Nat × Nat)} (h : a ≤ pc ∧ pc < b) : Cat RL pc xNE hp ((a, b, hp, 26) :: r) := ⟨⟨h.1, h.2, by show (26 : Nat) ≠ 0; decide⟩, Or.inl ⟨"java/util/NoSuchElementException", (show Cond.classLink RL 26 "java/util/NoSuchElementException" ∈ lwg from lwg_t4 198 (by decide +kernel) rfl), lwg_t5 24 (by decide +kernel) rfl, rfl⟩⟩
theorem catW_xIS {pc hp a b : Nat} {r : List (Nat × Nat × Nat × Nat)} (h : a ≤ pc ∧ pc < b) : Cat RL pc xIS hp ((a, b, hp, 51) :: r) := ⟨⟨h.1, h.2, by show (51 : Nat) ≠ 0; decide⟩, Or.inl ⟨"java/lang/IllegalStateException", (show Cond.classLink RL 51 "java/lang/IllegalStateException" ∈ lwg from lwg_t5 174 (by decide +kernel) rfl), lwg_t5 181 (by decide +kernel) rfl, rfl⟩⟩
theorem skW_xIA_xIO {pc hp a b t : Nat} {r : List (Nat × Nat × Nat × Nat)} (h : a ≤ pc ∧ pc < b) (hr : Cat RL pc xIA hp r) : Cat RL pc xIA hp ((a, b, t, 24) :: r) := ⟨⟨h.1, h.2, by show (24 : Nat) ≠ 0; decide⟩, Or.inr ⟨⟨"java/lang/IndexOutOfBoundsException", (show Cond.classLink RL 24 "java/lang/IndexOutOfBoundsException" ∈ lwg from lwg_t4 197 (by decide +kernel) rfl), by decide⟩, hr⟩⟩
theorem skW_xIS_xIA {pc hp a b t : Nat} {r : List (Nat × Nat × Nat × Nat)} (h : a ≤ pc ∧ pc < b) (hr : Cat RL pc xIS hp r) : Cat RL pc xIS hp ((a, b, t, 13) :: r) := ⟨⟨h.1, h.2, by show (13 : Nat) ≠ 0; decide⟩, Or.inr ⟨⟨"java/lang/IllegalArgumentException", (show Cond.classLink RL 13 "java/lang/IllegalArgumentException" ∈ lwg from lwg_t3 151 (by decide +kernel) rfl), by decide⟩, hr⟩⟩
theorem skW_xIS_xIO {pc hp a b t : Nat} {r : List (Nat × Nat × Nat × Nat)} (h : a ≤ pc ∧ pc < b) (hr : Cat RL pc xIS hp r) : Cat RL pc xIS hp ((a, b, t, 24) :: r) := ⟨⟨h.1, h.2, by show (24 : Nat) ≠ 0; decide⟩, Or.inr ⟨⟨"java/lang/IndexOutOfBoundsException", (show Cond.classLink RL 24 "java/lang/IndexOutOfBoundsException" ∈ lwg from lwg_t4 197 (by decide +kernel) rfl), by decide⟩, hr⟩⟩
theorem skW_xNE_xIO {pc hp a b t : Nat} {r : List (Nat × Nat × Nat × Nat)} (h : a ≤ pc ∧ pc < b) (hr : Cat RL pc xNE hp r) : Cat RL pc xNE hp ((a, b, t, 24) :: r) := ⟨⟨h.1, h.2, by show (24 : Nat) ≠ 0; decide⟩, Or.inr ⟨⟨"java/lang/IndexOutOfBoundsException", (show Cond.classLink RL 24 "java/lang/IndexOutOfBoundsException" ∈ lwg from lwg_t4 197 (by decide +kernel) rfl), by decide⟩, hr⟩⟩
theorem skW_xUO_xIA {pc hp a b t : Nat} {r : List (Nat × Nat × Nat × Nat)} (h : a ≤ pc ∧ pc < b) (hr : Cat RL pc xUO hp r) : Cat RL pc xUO hp ((a, b, t, 13) :: r) := ⟨⟨h.1, h.2, by show (13 : Nat) ≠ 0; decide⟩, Or.inr ⟨⟨"java/lang/IllegalArgumentException", (show Cond.classLink RL 13 "java/lang/IllegalArgumentException" ∈ lwg from lwg_t3 151 (by decide +kernel) rfl), by decide⟩, hr⟩⟩
theorem C_L_assize {d mc ms : Nat} {g : Gs} {h : Hc} {P : Po} {rs rs2 : List Int} {X O : Nat} (hX : g.1[X]? = some (10, 16, rs)) (hO : g.1[O]? = some (14, 1, rs2)) (g1 : g.2.1 = 1) (K : Call d mc ms mX11_assize [vR X] g h (WrJ [(xIA, 1), (xUO, 2)] O g P)) : CallH (d + 1) mc ms mL_assize [vR X, vR O] g h P := by
  refine CallH_of ⟨by decide, rfl⟩ (Nat.le_of_ble_eq_true rfl) (ls := [vR X, vR O, vU]) rfl ?_
  refine aL1 dL_assize_0 ?_
  refine R_iconst_0 dL_assize_1 ?_
  refine aL0 dL_assize_2 ?_
  refine R_invCg (av := []) (st := [vI 0, vR O]) rfl dL_assize_3 kL_7 hX rfl (Nat.le_of_ble_eq_true rfl) (Nat.le_refl _) (Nat.le_refl _) (K.mono ?_)
  rintro o g2 h2 ⟨rfl, ho⟩
  refine ⟨fun e => absurd (e.symm.trans g1) (by decide), ?_⟩
  match o, ho with
  | .inl (some v), ho =>
    obtain ⟨i, rfl, hP⟩ := ho
    refine R_i2l dL_assize_6 ?_
    refine R_last dL_assize_7 hO (Int.le_refl 0) (by decide) ?_
    refine R_goto dL_assize_8 ?_
    exact R_iconst_0 dL_assize_17 (R_iret dL_assize_18 rfl hP)
  | .inr E, ho =>
    obtain ⟨c, hc, hP⟩ := ho
    simp only [List.mem_cons, Prod.mk.injEq, List.not_mem_nil, or_false] at hc
    rcases hc with ⟨rfl, rfl⟩ | ⟨rfl, rfl⟩
    · exact ⟨11, 2, 12, catW_xIA (by decide), Or.inr ⟨2, rfl, dL_assize_11⟩, Nat.le_of_ble_eq_true rfl, R_iconst_1 dL_assize_12 (R_iret dL_assize_13 rfl hP)⟩
    · exact ⟨14, 2, 15, skW_xUO_xIA (by decide) (catW_xUO (by decide)), Or.inr ⟨2, rfl, dL_assize_14⟩, Nat.le_of_ble_eq_true rfl, R_iconst_2 dL_assize_15 (R_iret dL_assize_16 rfl hP)⟩
theorem C_L_law {d mc ms : Nat} {g : Gs} {h : Hc} {P : Po} {rs rs2 : List Int} {X O : Nat} (hX : g.1[X]? = some (10, 16, rs)) (hO : g.1[O]? = some (14, 1, rs2)) (g1 : g.2.1 = 1) (K : Call d mc ms mX11_law [vR X] g h (WrJ [(xIA, 1)] O g P)) : CallH (d + 1) mc ms mL_law [vR X, vR O] g h P := by
  refine CallH_of ⟨by decide, rfl⟩ (Nat.le_of_ble_eq_true rfl) (ls := [vR X, vR O, vU]) rfl ?_
  refine aL1 dL_law_0 ?_
  refine R_iconst_0 dL_law_1 ?_
  refine aL0 dL_law_2 ?_
  refine R_invCg (av := []) (st := [vI 0, vR O]) rfl dL_law_3 kL_17 hX rfl (Nat.le_of_ble_eq_true rfl) (Nat.le_refl _) (Nat.le_refl _) (K.mono ?_)
  rintro o g2 h2 ⟨rfl, ho⟩
  refine ⟨fun e => absurd (e.symm.trans g1) (by decide), ?_⟩
  match o, ho with
  | .inl (some v), ho =>
    obtain ⟨i, rfl, hP⟩ := ho
    refine R_i2l dL_law_6 ?_
    refine R_last dL_law_7 hO (Int.le_refl 0) (by decide) ?_
    refine R_goto dL_law_8 ?_
    exact R_iconst_0 dL_law_14 (R_iret dL_law_15 rfl hP)
  | .inr E, ho =>
    obtain ⟨c, hc, hP⟩ := ho
    simp only [List.mem_cons, Prod.mk.injEq, List.not_mem_nil, or_false] at hc
    obtain ⟨rfl, rfl⟩ := hc
    exact ⟨11, 2, 12, catW_xIA (by decide), Or.inr ⟨2, rfl, dL_law_11⟩, Nat.le_of_ble_eq_true rfl, R_iconst_1 dL_law_12 (R_iret dL_law_13 rfl hP)⟩
theorem C_L_judge {d mc ms : Nat} {g : Gs} {h : Hc} {P : Po} {rs rs2 : List Int} {X O : Nat} {x y : Int} (hX : g.1[X]? = some (10, 16, rs)) (hO : g.1[O]? = some (14, 1, rs2)) (g1 : g.2.1 = 1) (K : Call d mc ms mX11_judge [vR X, vI x, vI y] g h (WrJ [(xIO, 1), (xNE, 2)] O g P)) : CallH (d + 1) mc ms mL_judge [vR X, vI x, vI y, vR O] g h P := by
  refine CallH_of ⟨by decide, rfl⟩ (Nat.le_of_ble_eq_true rfl) (ls := [vR X, vI x, vI y, vR O, vU]) rfl ?_
  refine aL3 dL_judge_0 ?_
  refine R_iconst_0 dL_judge_1 ?_
  refine aL0 dL_judge_2 ?_
  refine iL1 dL_judge_3 ?_
  refine iL2 dL_judge_4 ?_
  refine R_invCg (av := [vI x, vI y]) (st := [vI 0, vR O]) rfl dL_judge_5 kL_20 hX rfl (Nat.le_of_ble_eq_true rfl) (Nat.le_refl _) (Nat.le_refl _) (K.mono ?_)
  rintro o g2 h2 ⟨rfl, ho⟩
  refine ⟨fun e => absurd (e.symm.trans g1) (by decide), ?_⟩
  match o, ho with
  | .inl (some v), ho =>
    obtain ⟨i, rfl, hP⟩ := ho
    refine R_i2l dL_judge_8 ?_
    refine R_last dL_judge_9 hO (Int.le_refl 0) (by decide) ?_
    refine R_goto dL_judge_10 ?_
    exact R_iconst_0 dL_judge_21 (R_iret dL_judge_22 rfl hP)
  | .inr E, ho =>
    obtain ⟨c, hc, hP⟩ := ho
    simp only [List.mem_cons, Prod.mk.injEq, List.not_mem_nil, or_false] at hc
    rcases hc with ⟨rfl, rfl⟩ | ⟨rfl, rfl⟩
    · exact ⟨13, 4, 15, catW_xIO (by decide), Or.inl dL_judge_13, Nat.le_of_ble_eq_true rfl, R_iconst_1 dL_judge_15 (R_iret dL_judge_16 rfl hP)⟩
    · exact ⟨17, 4, 19, skW_xNE_xIO (by decide) (catW_xNE (by decide)), Or.inl dL_judge_17, Nat.le_of_ble_eq_true rfl, R_iconst_2 dL_judge_19 (R_iret dL_judge_20 rfl hP)⟩
theorem C_L_cause {d mc ms : Nat} {g : Gs} {h : Hc} {P : Po} {rs rs2 : List Int} {X O : Nat} {x y : Int} (hX : g.1[X]? = some (10, 16, rs)) (hO : g.1[O]? = some (14, 1, rs2)) (g1 : g.2.1 = 1) (K : Call d mc ms mX11_cause [vR X, vI x, vI y] g h (WrJ [(xIO, 1), (xNE, 2)] O g P)) : CallH (d + 1) mc ms mL_cause [vR X, vI x, vI y, vR O] g h P := by
  refine CallH_of ⟨by decide, rfl⟩ (Nat.le_of_ble_eq_true rfl) (ls := [vR X, vI x, vI y, vR O, vU]) rfl ?_
  refine aL3 dL_cause_0 ?_
  refine R_iconst_0 dL_cause_1 ?_
  refine aL0 dL_cause_2 ?_
  refine iL1 dL_cause_3 ?_
  refine iL2 dL_cause_4 ?_
  refine R_invCg (av := [vI x, vI y]) (st := [vI 0, vR O]) rfl dL_cause_5 kL_28 hX rfl (Nat.le_of_ble_eq_true rfl) (Nat.le_refl _) (Nat.le_refl _) (K.mono ?_)
  rintro o g2 h2 ⟨rfl, ho⟩
  refine ⟨fun e => absurd (e.symm.trans g1) (by decide), ?_⟩
  match o, ho with
  | .inl (some v), ho =>
    obtain ⟨i, rfl, hP⟩ := ho
    refine R_i2l dL_cause_8 ?_
    refine R_last dL_cause_9 hO (Int.le_refl 0) (by decide) ?_
    refine R_goto dL_cause_10 ?_
    exact R_iconst_0 dL_cause_21 (R_iret dL_cause_22 rfl hP)
  | .inr E, ho =>
    obtain ⟨c, hc, hP⟩ := ho
    simp only [List.mem_cons, Prod.mk.injEq, List.not_mem_nil, or_false] at hc
    rcases hc with ⟨rfl, rfl⟩ | ⟨rfl, rfl⟩
    · exact ⟨13, 4, 15, catW_xIO (by decide), Or.inl dL_cause_13, Nat.le_of_ble_eq_true rfl, R_iconst_1 dL_cause_15 (R_iret dL_cause_16 rfl hP)⟩
    · exact ⟨17, 4, 19, skW_xNE_xIO (by decide) (catW_xNE (by decide)), Or.inl dL_cause_17, Nat.le_of_ble_eq_true rfl, R_iconst_2 dL_cause_19 (R_iret dL_cause_20 rfl hP)⟩
theorem C_L_listed {d mc ms : Nat} {g : Gs} {h : Hc} {P : Po} {rs rs2 : List Int} {X O : Nat} {x y : Int} (hX : g.1[X]? = some (10, 16, rs)) (hO : g.1[O]? = some (14, 1, rs2)) (g1 : g.2.1 = 1) (K : Call d mc ms mX11_listed [vR X, vI x, vI y] g h (WrJ [(xIO, 1)] O g P)) : CallH (d + 1) mc ms mL_listed [vR X, vI x, vI y, vR O] g h P := by
  refine CallH_of ⟨by decide, rfl⟩ (Nat.le_of_ble_eq_true rfl) (ls := [vR X, vI x, vI y, vR O, vU]) rfl ?_
  refine aL3 dL_listed_0 ?_
  refine R_iconst_0 dL_listed_1 ?_
  refine aL0 dL_listed_2 ?_
  refine iL1 dL_listed_3 ?_
  refine iL2 dL_listed_4 ?_
  refine R_invCg (av := [vI x, vI y]) (st := [vI 0, vR O]) rfl dL_listed_5 kL_31 hX rfl (Nat.le_of_ble_eq_true rfl) (Nat.le_refl _) (Nat.le_refl _) (K.mono ?_)
  rintro o g2 h2 ⟨rfl, ho⟩
  refine ⟨fun e => absurd (e.symm.trans g1) (by decide), ?_⟩
  match o, ho with
  | .inl (some v), ho =>
    obtain ⟨i, rfl, hP⟩ := ho
    refine R_i2l dL_listed_8 ?_
    refine R_last dL_listed_9 hO (Int.le_refl 0) (by decide) ?_
    refine R_goto dL_listed_10 ?_
    exact R_iconst_0 dL_listed_17 (R_iret dL_listed_18 rfl hP)
  | .inr E, ho =>
    obtain ⟨c, hc, hP⟩ := ho
    simp only [List.mem_cons, Prod.mk.injEq, List.not_mem_nil, or_false] at hc
    obtain ⟨rfl, rfl⟩ := hc
    exact ⟨13, 4, 15, catW_xIO (by decide), Or.inl dL_listed_13, Nat.le_of_ble_eq_true rfl, R_iconst_1 dL_listed_15 (R_iret dL_listed_16 rfl hP)⟩
theorem C_L_smell {d mc ms : Nat} {g : Gs} {h : Hc} {P : Po} {rs rs2 : List Int} {X O : Nat} {x : Int} (hX : g.1[X]? = some (10, 16, rs)) (hO : g.1[O]? = some (14, 1, rs2)) (g1 : g.2.1 = 1) (K : Call d mc ms mX11_smell [vR X, vI x] g h (WrJ [(xIO, 1)] O g P)) : CallH (d + 1) mc ms mL_smell [vR X, vI x, vR O] g h P := by
  refine CallH_of ⟨by decide, rfl⟩ (Nat.le_of_ble_eq_true rfl) (ls := [vR X, vI x, vR O, vU]) rfl ?_
  refine aL2 dL_smell_0 ?_
  refine R_iconst_0 dL_smell_1 ?_
  refine aL0 dL_smell_2 ?_
  refine iL1 dL_smell_3 ?_
  refine R_invCg (av := [vI x]) (st := [vI 0, vR O]) rfl dL_smell_4 kL_34 hX rfl (Nat.le_of_ble_eq_true rfl) (Nat.le_refl _) (Nat.le_refl _) (K.mono ?_)
  rintro o g2 h2 ⟨rfl, ho⟩
  refine ⟨fun e => absurd (e.symm.trans g1) (by decide), ?_⟩
  match o, ho with
  | .inl (some v), ho =>
    obtain ⟨i, rfl, hP⟩ := ho
    refine R_i2l dL_smell_7 ?_
    refine R_last dL_smell_8 hO (Int.le_refl 0) (by decide) ?_
    refine R_goto dL_smell_9 ?_
    exact R_iconst_0 dL_smell_15 (R_iret dL_smell_16 rfl hP)
  | .inr E, ho =>
    obtain ⟨c, hc, hP⟩ := ho
    simp only [List.mem_cons, Prod.mk.injEq, List.not_mem_nil, or_false] at hc
    obtain ⟨rfl, rfl⟩ := hc
    exact ⟨12, 3, 13, catW_xIO (by decide), Or.inr ⟨3, rfl, dL_smell_12⟩, Nat.le_of_ble_eq_true rfl, R_iconst_1 dL_smell_13 (R_iret dL_smell_14 rfl hP)⟩
theorem C_L_point {d mc ms : Nat} {g : Gs} {h : Hc} {P : Po} {rs rs2 : List Int} {X O : Nat} {x y z : Int} (hX : g.1[X]? = some (10, 16, rs)) (hO : g.1[O]? = some (14, 1, rs2)) (g1 : g.2.1 = 1) (K : Call d mc ms mX11_point [vR X, vI x, vI y, vI z] g h (WrJ [(xIO, 1)] O g P)) : CallH (d + 1) mc ms mL_point [vR X, vI x, vI y, vI z, vR O] g h P := by
  refine CallH_of ⟨by decide, rfl⟩ (Nat.le_of_ble_eq_true rfl) (ls := [vR X, vI x, vI y, vI z, vR O, vU]) rfl ?_
  refine aL4 dL_point_0 ?_
  refine R_iconst_0 dL_point_2 ?_
  refine aL0 dL_point_3 ?_
  refine iL1 dL_point_4 ?_
  refine iL2 dL_point_5 ?_
  refine iL3 dL_point_6 ?_
  refine R_invCg (av := [vI x, vI y, vI z]) (st := [vI 0, vR O]) rfl dL_point_7 kL_38 hX rfl (Nat.le_of_ble_eq_true rfl) (Nat.le_refl _) (Nat.le_refl _) (K.mono ?_)
  rintro o g2 h2 ⟨rfl, ho⟩
  refine ⟨fun e => absurd (e.symm.trans g1) (by decide), ?_⟩
  match o, ho with
  | .inl (some v), ho =>
    obtain ⟨i, rfl, hP⟩ := ho
    refine R_i2l dL_point_10 ?_
    refine R_last dL_point_11 hO (Int.le_refl 0) (by decide) ?_
    refine R_goto dL_point_12 ?_
    exact R_iconst_0 dL_point_19 (R_iret dL_point_20 rfl hP)
  | .inr E, ho =>
    obtain ⟨c, hc, hP⟩ := ho
    simp only [List.mem_cons, Prod.mk.injEq, List.not_mem_nil, or_false] at hc
    obtain ⟨rfl, rfl⟩ := hc
    exact ⟨15, 5, 17, catW_xIO (by decide), Or.inl dL_point_15, Nat.le_of_ble_eq_true rfl, R_iconst_1 dL_point_17 (R_iret dL_point_18 rfl hP)⟩
theorem C_L_would {d mc ms : Nat} {g : Gs} {h : Hc} {P : Po} {rs rs2 : List Int} {X O : Nat} {x y z : Int} (hX : g.1[X]? = some (10, 16, rs)) (hO : g.1[O]? = some (14, 1, rs2)) (g1 : g.2.1 = 1) (K : Call d mc ms mX11_would [vR X, vI x, vI y, vI z] g h (WrJ [(xIO, 1)] O g P)) : CallH (d + 1) mc ms mL_would [vR X, vI x, vI y, vI z, vR O] g h P := by
  refine CallH_of ⟨by decide, rfl⟩ (Nat.le_of_ble_eq_true rfl) (ls := [vR X, vI x, vI y, vI z, vR O, vU]) rfl ?_
  refine aL4 dL_would_0 ?_
  refine R_iconst_0 dL_would_2 ?_
  refine aL0 dL_would_3 ?_
  refine iL1 dL_would_4 ?_
  refine iL2 dL_would_5 ?_
  refine iL3 dL_would_6 ?_
  refine R_invCg (av := [vI x, vI y, vI z]) (st := [vI 0, vR O]) rfl dL_would_7 kL_42 hX rfl (Nat.le_of_ble_eq_true rfl) (Nat.le_refl _) (Nat.le_refl _) (K.mono ?_)
  rintro o g2 h2 ⟨rfl, ho⟩
  refine ⟨fun e => absurd (e.symm.trans g1) (by decide), ?_⟩
  match o, ho with
  | .inl (some v), ho =>
    obtain ⟨i, rfl, hP⟩ := ho
    refine R_i2l dL_would_10 ?_
    refine R_last dL_would_11 hO (Int.le_refl 0) (by decide) ?_
    refine R_goto dL_would_12 ?_
    exact R_iconst_0 dL_would_19 (R_iret dL_would_20 rfl hP)
  | .inr E, ho =>
    obtain ⟨c, hc, hP⟩ := ho
    simp only [List.mem_cons, Prod.mk.injEq, List.not_mem_nil, or_false] at hc
    obtain ⟨rfl, rfl⟩ := hc
    exact ⟨15, 5, 17, catW_xIO (by decide), Or.inl dL_would_15, Nat.le_of_ble_eq_true rfl, R_iconst_1 dL_would_17 (R_iret dL_would_18 rfl hP)⟩
theorem C_L_hours {d mc ms : Nat} {g : Gs} {h : Hc} {P : Po} {rs rs2 : List Int} {X O : Nat} {x : Int} (hX : g.1[X]? = some (10, 16, rs)) (hO : g.1[O]? = some (14, 1, rs2)) (g1 : g.2.1 = 1) (K : Call d mc ms mX11_hours [vR X, vI x] g h (WrJ [(xIA, 1)] O g P)) : CallH (d + 1) mc ms mL_hours [vR X, vI x, vR O] g h P := by
  refine CallH_of ⟨by decide, rfl⟩ (Nat.le_of_ble_eq_true rfl) (ls := [vR X, vI x, vR O, vU]) rfl ?_
  refine aL2 dL_hours_0 ?_
  refine R_iconst_0 dL_hours_1 ?_
  refine aL0 dL_hours_2 ?_
  refine iL1 dL_hours_3 ?_
  refine R_invCg (av := [vI x]) (st := [vI 0, vR O]) rfl dL_hours_4 kL_45 hX rfl (Nat.le_of_ble_eq_true rfl) (Nat.le_refl _) (Nat.le_refl _) (K.mono ?_)
  rintro o g2 h2 ⟨rfl, ho⟩
  refine ⟨fun e => absurd (e.symm.trans g1) (by decide), ?_⟩
  match o, ho with
  | .inl (some v), ho =>
    obtain ⟨i, rfl, hP⟩ := ho
    refine R_i2l dL_hours_7 ?_
    refine R_last dL_hours_8 hO (Int.le_refl 0) (by decide) ?_
    refine R_goto dL_hours_9 ?_
    exact R_iconst_0 dL_hours_15 (R_iret dL_hours_16 rfl hP)
  | .inr E, ho =>
    obtain ⟨c, hc, hP⟩ := ho
    simp only [List.mem_cons, Prod.mk.injEq, List.not_mem_nil, or_false] at hc
    obtain ⟨rfl, rfl⟩ := hc
    exact ⟨12, 3, 13, catW_xIA (by decide), Or.inr ⟨3, rfl, dL_hours_12⟩, Nat.le_of_ble_eq_true rfl, R_iconst_1 dL_hours_13 (R_iret dL_hours_14 rfl hP)⟩
theorem C_L_list {d mc ms : Nat} {g : Gs} {h : Hc} {P : Po} {rs rs2 : List Int} {X O : Nat} {x y z : Int} (hX : g.1[X]? = some (10, 16, rs)) (hO : g.1[O]? = some (14, 1, rs2)) (g1 : g.2.1 = 1) (K : Call d mc ms mX11_list [vR X, vI x, vI y, vI z] g h (WrJ [(xIO, 1), (xIS, 2)] O g P)) : CallH (d + 1) mc ms mL_list [vR X, vI x, vI y, vI z, vR O] g h P := by
  refine CallH_of ⟨by decide, rfl⟩ (Nat.le_of_ble_eq_true rfl) (ls := [vR X, vI x, vI y, vI z, vR O, vU]) rfl ?_
  refine aL4 dL_list_0 ?_
  refine R_iconst_0 dL_list_2 ?_
  refine aL0 dL_list_3 ?_
  refine iL1 dL_list_4 ?_
  refine iL2 dL_list_5 ?_
  refine iL3 dL_list_6 ?_
  refine R_invCg (av := [vI x, vI y, vI z]) (st := [vI 0, vR O]) rfl dL_list_7 kL_48 hX rfl (Nat.le_of_ble_eq_true rfl) (Nat.le_refl _) (Nat.le_refl _) (K.mono ?_)
  rintro o g2 h2 ⟨rfl, ho⟩
  refine ⟨fun e => absurd (e.symm.trans g1) (by decide), ?_⟩
  match o, ho with
  | .inl (some v), ho =>
    obtain ⟨i, rfl, hP⟩ := ho
    refine R_i2l dL_list_10 ?_
    refine R_last dL_list_11 hO (Int.le_refl 0) (by decide) ?_
    refine R_goto dL_list_12 ?_
    exact R_iconst_0 dL_list_23 (R_iret dL_list_24 rfl hP)
  | .inr E, ho =>
    obtain ⟨c, hc, hP⟩ := ho
    simp only [List.mem_cons, Prod.mk.injEq, List.not_mem_nil, or_false] at hc
    rcases hc with ⟨rfl, rfl⟩ | ⟨rfl, rfl⟩
    · exact ⟨15, 5, 17, catW_xIO (by decide), Or.inl dL_list_15, Nat.le_of_ble_eq_true rfl, R_iconst_1 dL_list_17 (R_iret dL_list_18 rfl hP)⟩
    · exact ⟨19, 5, 21, skW_xIS_xIO (by decide) (catW_xIS (by decide)), Or.inl dL_list_19, Nat.le_of_ble_eq_true rfl, R_iconst_2 dL_list_21 (R_iret dL_list_22 rfl hP)⟩
theorem C_L_strike {d mc ms : Nat} {g : Gs} {h : Hc} {P : Po} {rs rs2 : List Int} {X O : Nat} {x y : Int} (hX : g.1[X]? = some (10, 16, rs)) (hO : g.1[O]? = some (14, 1, rs2)) (g1 : g.2.1 = 1) (K : Call d mc ms mX11_strike [vR X, vI x, vI y] g h (WrJ [(xIO, 1), (xIS, 2)] O g P)) : CallH (d + 1) mc ms mL_strike [vR X, vI x, vI y, vR O] g h P := by
  refine CallH_of ⟨by decide, rfl⟩ (Nat.le_of_ble_eq_true rfl) (ls := [vR X, vI x, vI y, vR O, vU]) rfl ?_
  refine aL3 dL_strike_0 ?_
  refine R_iconst_0 dL_strike_1 ?_
  refine aL0 dL_strike_2 ?_
  refine iL1 dL_strike_3 ?_
  refine iL2 dL_strike_4 ?_
  refine R_invCg (av := [vI x, vI y]) (st := [vI 0, vR O]) rfl dL_strike_5 kL_53 hX rfl (Nat.le_of_ble_eq_true rfl) (Nat.le_refl _) (Nat.le_refl _) (K.mono ?_)
  rintro o g2 h2 ⟨rfl, ho⟩
  refine ⟨fun e => absurd (e.symm.trans g1) (by decide), ?_⟩
  match o, ho with
  | .inl (some v), ho =>
    obtain ⟨i, rfl, hP⟩ := ho
    refine R_i2l dL_strike_8 ?_
    refine R_last dL_strike_9 hO (Int.le_refl 0) (by decide) ?_
    refine R_goto dL_strike_10 ?_
    exact R_iconst_0 dL_strike_21 (R_iret dL_strike_22 rfl hP)
  | .inr E, ho =>
    obtain ⟨c, hc, hP⟩ := ho
    simp only [List.mem_cons, Prod.mk.injEq, List.not_mem_nil, or_false] at hc
    rcases hc with ⟨rfl, rfl⟩ | ⟨rfl, rfl⟩
    · exact ⟨13, 4, 15, catW_xIO (by decide), Or.inl dL_strike_13, Nat.le_of_ble_eq_true rfl, R_iconst_1 dL_strike_15 (R_iret dL_strike_16 rfl hP)⟩
    · exact ⟨17, 4, 19, skW_xIS_xIO (by decide) (catW_xIS (by decide)), Or.inl dL_strike_17, Nat.le_of_ble_eq_true rfl, R_iconst_2 dL_strike_19 (R_iret dL_strike_20 rfl hP)⟩
theorem C_L_feeds {d mc ms : Nat} {g : Gs} {h : Hc} {P : Po} {rs rs2 : List Int} {X O : Nat} {x : Int} (hX : g.1[X]? = some (10, 16, rs)) (hO : g.1[O]? = some (14, 1, rs2)) (g1 : g.2.1 = 1) (K : Call d mc ms mX11_feeds [vR X, vI x] g h (WrJ [(xIO, 1)] O g P)) : CallH (d + 1) mc ms mL_feeds [vR X, vI x, vR O] g h P := by
  refine CallH_of ⟨by decide, rfl⟩ (Nat.le_of_ble_eq_true rfl) (ls := [vR X, vI x, vR O, vU]) rfl ?_
  refine aL2 dL_feeds_0 ?_
  refine R_iconst_0 dL_feeds_1 ?_
  refine aL0 dL_feeds_2 ?_
  refine iL1 dL_feeds_3 ?_
  refine R_invCg (av := [vI x]) (st := [vI 0, vR O]) rfl dL_feeds_4 kL_56 hX rfl (Nat.le_of_ble_eq_true rfl) (Nat.le_refl _) (Nat.le_refl _) (K.mono ?_)
  rintro o g2 h2 ⟨rfl, ho⟩
  refine ⟨fun e => absurd (e.symm.trans g1) (by decide), ?_⟩
  match o, ho with
  | .inl (some v), ho =>
    obtain ⟨i, rfl, hP⟩ := ho
    refine R_i2l dL_feeds_7 ?_
    refine R_last dL_feeds_8 hO (Int.le_refl 0) (by decide) ?_
    refine R_goto dL_feeds_9 ?_
    exact R_iconst_0 dL_feeds_15 (R_iret dL_feeds_16 rfl hP)
  | .inr E, ho =>
    obtain ⟨c, hc, hP⟩ := ho
    simp only [List.mem_cons, Prod.mk.injEq, List.not_mem_nil, or_false] at hc
    obtain ⟨rfl, rfl⟩ := hc
    exact ⟨12, 3, 13, catW_xIO (by decide), Or.inr ⟨3, rfl, dL_feeds_12⟩, Nat.le_of_ble_eq_true rfl, R_iconst_1 dL_feeds_13 (R_iret dL_feeds_14 rfl hP)⟩
theorem C_L_fast {d mc ms : Nat} {g : Gs} {h : Hc} {P : Po} {rs rs2 : List Int} {X O : Nat} {x y : Int} (hX : g.1[X]? = some (10, 16, rs)) (hO : g.1[O]? = some (14, 1, rs2)) (g1 : g.2.1 = 1) (K : Call d mc ms mX11_fast [vR X, vI x, vI y] g h (WrJ [(xIO, 1), (xIA, 2), (xIS, 3)] O g P)) : CallH (d + 1) mc ms mL_fast [vR X, vI x, vI y, vR O] g h P := by
  refine CallH_of ⟨by decide, rfl⟩ (Nat.le_of_ble_eq_true rfl) (ls := [vR X, vI x, vI y, vR O, vU]) rfl ?_
  refine aL3 dL_fast_0 ?_
  refine R_iconst_0 dL_fast_1 ?_
  refine aL0 dL_fast_2 ?_
  refine iL1 dL_fast_3 ?_
  refine iL2 dL_fast_4 ?_
  refine R_invCg (av := [vI x, vI y]) (st := [vI 0, vR O]) rfl dL_fast_5 kL_59 hX rfl (Nat.le_of_ble_eq_true rfl) (Nat.le_refl _) (Nat.le_refl _) (K.mono ?_)
  rintro o g2 h2 ⟨rfl, ho⟩
  refine ⟨fun e => absurd (e.symm.trans g1) (by decide), ?_⟩
  match o, ho with
  | .inl (some v), ho =>
    obtain ⟨i, rfl, hP⟩ := ho
    refine R_i2l dL_fast_8 ?_
    refine R_last dL_fast_9 hO (Int.le_refl 0) (by decide) ?_
    refine R_goto dL_fast_10 ?_
    exact R_iconst_0 dL_fast_25 (R_iret dL_fast_26 rfl hP)
  | .inr E, ho =>
    obtain ⟨c, hc, hP⟩ := ho
    simp only [List.mem_cons, Prod.mk.injEq, List.not_mem_nil, or_false] at hc
    rcases hc with ⟨rfl, rfl⟩ | ⟨rfl, rfl⟩ | ⟨rfl, rfl⟩
    · exact ⟨13, 4, 15, catW_xIO (by decide), Or.inl dL_fast_13, Nat.le_of_ble_eq_true rfl, R_iconst_1 dL_fast_15 (R_iret dL_fast_16 rfl hP)⟩
    · exact ⟨17, 4, 19, skW_xIA_xIO (by decide) (catW_xIA (by decide)), Or.inl dL_fast_17, Nat.le_of_ble_eq_true rfl, R_iconst_2 dL_fast_19 (R_iret dL_fast_20 rfl hP)⟩
    · exact ⟨21, 4, 23, skW_xIS_xIO (by decide) (skW_xIS_xIA (by decide) (catW_xIS (by decide))), Or.inl dL_fast_21, Nat.le_of_ble_eq_true rfl, R_iconst_3 dL_fast_23 (R_iret dL_fast_24 rfl hP)⟩
theorem C_L_inn {d mc ms : Nat} {g : Gs} {h : Hc} {P : Po} {rs rs2 : List Int} {X O : Nat} {x y : Int} (hX : g.1[X]? = some (10, 16, rs)) (hO : g.1[O]? = some (14, 1, rs2)) (g1 : g.2.1 = 1) (K : Call d mc ms mX11_inn [vR X, vI x, vI y] g h (WrJ [(xIO, 1), (xIA, 2)] O g P)) : CallH (d + 1) mc ms mL_inn [vR X, vI x, vI y, vR O] g h P := by
  refine CallH_of ⟨by decide, rfl⟩ (Nat.le_of_ble_eq_true rfl) (ls := [vR X, vI x, vI y, vR O, vU]) rfl ?_
  refine aL3 dL_inn_0 ?_
  refine R_iconst_0 dL_inn_1 ?_
  refine aL0 dL_inn_2 ?_
  refine iL1 dL_inn_3 ?_
  refine iL2 dL_inn_4 ?_
  refine R_invCg (av := [vI x, vI y]) (st := [vI 0, vR O]) rfl dL_inn_5 kL_62 hX rfl (Nat.le_of_ble_eq_true rfl) (Nat.le_refl _) (Nat.le_refl _) (K.mono ?_)
  rintro o g2 h2 ⟨rfl, ho⟩
  refine ⟨fun e => absurd (e.symm.trans g1) (by decide), ?_⟩
  match o, ho with
  | .inl (some v), ho =>
    obtain ⟨i, rfl, hP⟩ := ho
    refine R_i2l dL_inn_8 ?_
    refine R_last dL_inn_9 hO (Int.le_refl 0) (by decide) ?_
    refine R_goto dL_inn_10 ?_
    exact R_iconst_0 dL_inn_21 (R_iret dL_inn_22 rfl hP)
  | .inr E, ho =>
    obtain ⟨c, hc, hP⟩ := ho
    simp only [List.mem_cons, Prod.mk.injEq, List.not_mem_nil, or_false] at hc
    rcases hc with ⟨rfl, rfl⟩ | ⟨rfl, rfl⟩
    · exact ⟨13, 4, 15, catW_xIO (by decide), Or.inl dL_inn_13, Nat.le_of_ble_eq_true rfl, R_iconst_1 dL_inn_15 (R_iret dL_inn_16 rfl hP)⟩
    · exact ⟨17, 4, 19, skW_xIA_xIO (by decide) (catW_xIA (by decide)), Or.inl dL_inn_17, Nat.le_of_ble_eq_true rfl, R_iconst_2 dL_inn_19 (R_iret dL_inn_20 rfl hP)⟩
theorem C_L_appeal {d mc ms : Nat} {g : Gs} {h : Hc} {P : Po} {rs rs2 : List Int} {X O : Nat} {x : Int} (hX : g.1[X]? = some (10, 16, rs)) (hO : g.1[O]? = some (14, 1, rs2)) (g1 : g.2.1 = 1) (K : Call d mc ms mX11_appeal [vR X, vI x] g h (WrJ [(xIO, 1), (xIS, 2)] O g P)) : CallH (d + 1) mc ms mL_appeal [vR X, vI x, vR O] g h P := by
  refine CallH_of ⟨by decide, rfl⟩ (Nat.le_of_ble_eq_true rfl) (ls := [vR X, vI x, vR O, vU]) rfl ?_
  refine aL2 dL_appeal_0 ?_
  refine R_iconst_0 dL_appeal_1 ?_
  refine aL0 dL_appeal_2 ?_
  refine iL1 dL_appeal_3 ?_
  refine R_invCg (av := [vI x]) (st := [vI 0, vR O]) rfl dL_appeal_4 kL_65 hX rfl (Nat.le_of_ble_eq_true rfl) (Nat.le_refl _) (Nat.le_refl _) (K.mono ?_)
  rintro o g2 h2 ⟨rfl, ho⟩
  refine ⟨fun e => absurd (e.symm.trans g1) (by decide), ?_⟩
  match o, ho with
  | .inl (some v), ho =>
    obtain ⟨i, rfl, hP⟩ := ho
    refine R_i2l dL_appeal_7 ?_
    refine R_last dL_appeal_8 hO (Int.le_refl 0) (by decide) ?_
    refine R_goto dL_appeal_9 ?_
    exact R_iconst_0 dL_appeal_18 (R_iret dL_appeal_19 rfl hP)
  | .inr E, ho =>
    obtain ⟨c, hc, hP⟩ := ho
    simp only [List.mem_cons, Prod.mk.injEq, List.not_mem_nil, or_false] at hc
    rcases hc with ⟨rfl, rfl⟩ | ⟨rfl, rfl⟩
    · exact ⟨12, 3, 13, catW_xIO (by decide), Or.inr ⟨3, rfl, dL_appeal_12⟩, Nat.le_of_ble_eq_true rfl, R_iconst_1 dL_appeal_13 (R_iret dL_appeal_14 rfl hP)⟩
    · exact ⟨15, 3, 16, skW_xIS_xIO (by decide) (catW_xIS (by decide)), Or.inr ⟨3, rfl, dL_appeal_15⟩, Nat.le_of_ble_eq_true rfl, R_iconst_2 dL_appeal_16 (R_iret dL_appeal_17 rfl hP)⟩
theorem C_L_grave {d mc ms : Nat} {g : Gs} {h : Hc} {P : Po} {rs rs2 : List Int} {X O : Nat} {x y : Int} (hX : g.1[X]? = some (10, 16, rs)) (hO : g.1[O]? = some (14, 1, rs2)) (g1 : g.2.1 = 1) (K : Call d mc ms mX11_grave [vR X, vI x, vI y] g h (WrJ [(xIO, 1), (xIA, 2)] O g P)) : CallH (d + 1) mc ms mL_grave [vR X, vI x, vI y, vR O] g h P := by
  refine CallH_of ⟨by decide, rfl⟩ (Nat.le_of_ble_eq_true rfl) (ls := [vR X, vI x, vI y, vR O, vU]) rfl ?_
  refine aL3 dL_grave_0 ?_
  refine R_iconst_0 dL_grave_1 ?_
  refine aL0 dL_grave_2 ?_
  refine iL1 dL_grave_3 ?_
  refine iL2 dL_grave_4 ?_
  refine R_invCg (av := [vI x, vI y]) (st := [vI 0, vR O]) rfl dL_grave_5 kL_68 hX rfl (Nat.le_of_ble_eq_true rfl) (Nat.le_refl _) (Nat.le_refl _) (K.mono ?_)
  rintro o g2 h2 ⟨rfl, ho⟩
  refine ⟨fun e => absurd (e.symm.trans g1) (by decide), ?_⟩
  match o, ho with
  | .inl (some v), ho =>
    obtain ⟨i, rfl, hP⟩ := ho
    refine R_i2l dL_grave_8 ?_
    refine R_last dL_grave_9 hO (Int.le_refl 0) (by decide) ?_
    refine R_goto dL_grave_10 ?_
    exact R_iconst_0 dL_grave_21 (R_iret dL_grave_22 rfl hP)
  | .inr E, ho =>
    obtain ⟨c, hc, hP⟩ := ho
    simp only [List.mem_cons, Prod.mk.injEq, List.not_mem_nil, or_false] at hc
    rcases hc with ⟨rfl, rfl⟩ | ⟨rfl, rfl⟩
    · exact ⟨13, 4, 15, catW_xIO (by decide), Or.inl dL_grave_13, Nat.le_of_ble_eq_true rfl, R_iconst_1 dL_grave_15 (R_iret dL_grave_16 rfl hP)⟩
    · exact ⟨17, 4, 19, skW_xIA_xIO (by decide) (catW_xIA (by decide)), Or.inl dL_grave_17, Nat.le_of_ble_eq_true rfl, R_iconst_2 dL_grave_19 (R_iret dL_grave_20 rfl hP)⟩
theorem C_L_early {d mc ms : Nat} {g : Gs} {h : Hc} {P : Po} {rs rs2 : List Int} {X O : Nat} {x y : Int} (hX : g.1[X]? = some (10, 16, rs)) (hO : g.1[O]? = some (14, 1, rs2)) (g1 : g.2.1 = 1) (K : Call d mc ms mX11_early [vR X, vI x, vI y] g h (WrJ [(xIO, 1)] O g P)) : CallH (d + 1) mc ms mL_early [vR X, vI x, vI y, vR O] g h P := by
  refine CallH_of ⟨by decide, rfl⟩ (Nat.le_of_ble_eq_true rfl) (ls := [vR X, vI x, vI y, vR O, vU]) rfl ?_
  refine aL3 dL_early_0 ?_
  refine R_iconst_0 dL_early_1 ?_
  refine aL0 dL_early_2 ?_
  refine iL1 dL_early_3 ?_
  refine iL2 dL_early_4 ?_
  refine R_invCg (av := [vI x, vI y]) (st := [vI 0, vR O]) rfl dL_early_5 kL_71 hX rfl (Nat.le_of_ble_eq_true rfl) (Nat.le_refl _) (Nat.le_refl _) (K.mono ?_)
  rintro o g2 h2 ⟨rfl, ho⟩
  refine ⟨fun e => absurd (e.symm.trans g1) (by decide), ?_⟩
  match o, ho with
  | .inl (some v), ho =>
    obtain ⟨i, rfl, hP⟩ := ho
    refine R_i2l dL_early_8 ?_
    refine R_last dL_early_9 hO (Int.le_refl 0) (by decide) ?_
    refine R_goto dL_early_10 ?_
    exact R_iconst_0 dL_early_17 (R_iret dL_early_18 rfl hP)
  | .inr E, ho =>
    obtain ⟨c, hc, hP⟩ := ho
    simp only [List.mem_cons, Prod.mk.injEq, List.not_mem_nil, or_false] at hc
    obtain ⟨rfl, rfl⟩ := hc
    exact ⟨13, 4, 15, catW_xIO (by decide), Or.inl dL_early_13, Nat.le_of_ble_eq_true rfl, R_iconst_1 dL_early_15 (R_iret dL_early_16 rfl hP)⟩
theorem C_L_split {d mc ms : Nat} {g : Gs} {h : Hc} {P : Po} {rs rs2 : List Int} {X O : Nat} {x : Int} (hX : g.1[X]? = some (10, 16, rs)) (hO : g.1[O]? = some (14, 1, rs2)) (g1 : g.2.1 = 1) (K : Call d mc ms mX11_split [vR X, vI x] g h (WrJZ [(xIO, 1)] O g P)) : CallH (d + 1) mc ms mL_split [vR X, vI x, vR O] g h P := by
  refine CallH_of ⟨by decide, rfl⟩ (Nat.le_of_ble_eq_true rfl) (ls := [vR X, vI x, vR O, vU]) rfl ?_
  refine aL2 dL_split_0 ?_
  refine R_iconst_0 dL_split_1 ?_
  refine aL0 dL_split_2 ?_
  refine iL1 dL_split_3 ?_
  refine R_invCg (av := [vI x]) (st := [vI 0, vR O]) rfl dL_split_4 kL_74 hX rfl (Nat.le_of_ble_eq_true rfl) (Nat.le_refl _) (Nat.le_refl _) (K.mono ?_)
  rintro o g2 h2 ⟨rfl, ho⟩
  refine ⟨fun e => absurd (e.symm.trans g1) (by decide), ?_⟩
  match o, ho with
  | .inl (some v), ho =>
    obtain ⟨b, rfl, hP⟩ := ho
    refine R_if_eq dL_split_7 (fun e => ?_) (fun e => ?_)
    · refine R_lconst_0 dL_split_14 ?_
      refine R_last dL_split_15 hO (Int.le_refl 0) (by decide) ?_
      refine R_goto dL_split_16 ?_
      have hb : b = false := by cases b with | false => rfl | true => exact absurd e (by decide)
      subst hb
      exact R_iconst_0 dL_split_22 (R_iret dL_split_23 rfl hP)
    · refine R_lconst_1 dL_split_10 ?_
      refine R_goto dL_split_11 ?_
      refine R_last dL_split_15 hO (Int.le_refl 0) (by decide) ?_
      refine R_goto dL_split_16 ?_
      have hb : b = true := by cases b with | true => rfl | false => exact absurd rfl e
      subst hb
      exact R_iconst_0 dL_split_22 (R_iret dL_split_23 rfl hP)
  | .inr E, ho =>
    obtain ⟨c, hc, hP⟩ := ho
    simp only [List.mem_cons, Prod.mk.injEq, List.not_mem_nil, or_false] at hc
    obtain ⟨rfl, rfl⟩ := hc
    exact ⟨19, 3, 20, catW_xIO (by decide), Or.inr ⟨3, rfl, dL_split_19⟩, Nat.le_of_ble_eq_true rfl, R_iconst_1 dL_split_20 (R_iret dL_split_21 rfl hP)⟩
theorem C_L_crumbles {d mc ms : Nat} {g : Gs} {h : Hc} {P : Po} {rs rs2 : List Int} {X O : Nat} {x : Int} (hX : g.1[X]? = some (10, 16, rs)) (hO : g.1[O]? = some (14, 1, rs2)) (g1 : g.2.1 = 1) (K : Call d mc ms mX11_crumbles [vR X, vI x] g h (WrJ [(xIO, 1)] O g P)) : CallH (d + 1) mc ms mL_crumbles [vR X, vI x, vR O] g h P := by
  refine CallH_of ⟨by decide, rfl⟩ (Nat.le_of_ble_eq_true rfl) (ls := [vR X, vI x, vR O, vU]) rfl ?_
  refine aL2 dL_crumbles_0 ?_
  refine R_iconst_0 dL_crumbles_1 ?_
  refine aL0 dL_crumbles_2 ?_
  refine iL1 dL_crumbles_3 ?_
  refine R_invCg (av := [vI x]) (st := [vI 0, vR O]) rfl dL_crumbles_4 kL_78 hX rfl (Nat.le_of_ble_eq_true rfl) (Nat.le_refl _) (Nat.le_refl _) (K.mono ?_)
  rintro o g2 h2 ⟨rfl, ho⟩
  refine ⟨fun e => absurd (e.symm.trans g1) (by decide), ?_⟩
  match o, ho with
  | .inl (some v), ho =>
    obtain ⟨i, rfl, hP⟩ := ho
    refine R_i2l dL_crumbles_7 ?_
    refine R_last dL_crumbles_8 hO (Int.le_refl 0) (by decide) ?_
    refine R_goto dL_crumbles_9 ?_
    exact R_iconst_0 dL_crumbles_15 (R_iret dL_crumbles_16 rfl hP)
  | .inr E, ho =>
    obtain ⟨c, hc, hP⟩ := ho
    simp only [List.mem_cons, Prod.mk.injEq, List.not_mem_nil, or_false] at hc
    obtain ⟨rfl, rfl⟩ := hc
    exact ⟨12, 3, 13, catW_xIO (by decide), Or.inr ⟨3, rfl, dL_crumbles_12⟩, Nat.le_of_ble_eq_true rfl, R_iconst_1 dL_crumbles_13 (R_iret dL_crumbles_14 rfl hP)⟩
theorem C_L_meals {d mc ms : Nat} {g : Gs} {h : Hc} {P : Po} {rs rs2 : List Int} {X O : Nat} {x y : Int} (hX : g.1[X]? = some (10, 16, rs)) (hO : g.1[O]? = some (14, 1, rs2)) (g1 : g.2.1 = 1) (K : Call d mc ms mX11_meals [vR X, vI x, vI y] g h (WrJ [(xIO, 1), (xIA, 2)] O g P)) : CallH (d + 1) mc ms mL_meals [vR X, vI x, vI y, vR O] g h P := by
  refine CallH_of ⟨by decide, rfl⟩ (Nat.le_of_ble_eq_true rfl) (ls := [vR X, vI x, vI y, vR O, vU]) rfl ?_
  refine aL3 dL_meals_0 ?_
  refine R_iconst_0 dL_meals_1 ?_
  refine aL0 dL_meals_2 ?_
  refine iL1 dL_meals_3 ?_
  refine iL2 dL_meals_4 ?_
  refine R_invCg (av := [vI x, vI y]) (st := [vI 0, vR O]) rfl dL_meals_5 kL_81 hX rfl (Nat.le_of_ble_eq_true rfl) (Nat.le_refl _) (Nat.le_refl _) (K.mono ?_)
  rintro o g2 h2 ⟨rfl, ho⟩
  refine ⟨fun e => absurd (e.symm.trans g1) (by decide), ?_⟩
  match o, ho with
  | .inl (some v), ho =>
    obtain ⟨i, rfl, hP⟩ := ho
    refine R_i2l dL_meals_8 ?_
    refine R_last dL_meals_9 hO (Int.le_refl 0) (by decide) ?_
    refine R_goto dL_meals_10 ?_
    exact R_iconst_0 dL_meals_21 (R_iret dL_meals_22 rfl hP)
  | .inr E, ho =>
    obtain ⟨c, hc, hP⟩ := ho
    simp only [List.mem_cons, Prod.mk.injEq, List.not_mem_nil, or_false] at hc
    rcases hc with ⟨rfl, rfl⟩ | ⟨rfl, rfl⟩
    · exact ⟨13, 4, 15, catW_xIO (by decide), Or.inl dL_meals_13, Nat.le_of_ble_eq_true rfl, R_iconst_1 dL_meals_15 (R_iret dL_meals_16 rfl hP)⟩
    · exact ⟨17, 4, 19, skW_xIA_xIO (by decide) (catW_xIA (by decide)), Or.inl dL_meals_17, Nat.le_of_ble_eq_true rfl, R_iconst_2 dL_meals_19 (R_iret dL_meals_20 rfl hP)⟩
theorem C_L_tries {d mc ms : Nat} {g : Gs} {h : Hc} {P : Po} {rs rs2 : List Int} {X O : Nat} {x : Int} (hX : g.1[X]? = some (10, 16, rs)) (hO : g.1[O]? = some (14, 1, rs2)) (g1 : g.2.1 = 1) (K : Call d mc ms mX11_tries [vR X, vI x] g h (WrJ [(xIO, 1), (xIA, 2)] O g P)) : CallH (d + 1) mc ms mL_tries [vR X, vI x, vR O] g h P := by
  refine CallH_of ⟨by decide, rfl⟩ (Nat.le_of_ble_eq_true rfl) (ls := [vR X, vI x, vR O, vU]) rfl ?_
  refine aL2 dL_tries_0 ?_
  refine R_iconst_0 dL_tries_1 ?_
  refine aL0 dL_tries_2 ?_
  refine iL1 dL_tries_3 ?_
  refine R_invCg (av := [vI x]) (st := [vI 0, vR O]) rfl dL_tries_4 kL_85 hX rfl (Nat.le_of_ble_eq_true rfl) (Nat.le_refl _) (Nat.le_refl _) (K.mono ?_)
  rintro o g2 h2 ⟨rfl, ho⟩
  refine ⟨fun e => absurd (e.symm.trans g1) (by decide), ?_⟩
  match o, ho with
  | .inl (some v), ho =>
    obtain ⟨i, rfl, hP⟩ := ho
    refine R_i2l dL_tries_7 ?_
    refine R_last dL_tries_8 hO (Int.le_refl 0) (by decide) ?_
    refine R_goto dL_tries_9 ?_
    exact R_iconst_0 dL_tries_18 (R_iret dL_tries_19 rfl hP)
  | .inr E, ho =>
    obtain ⟨c, hc, hP⟩ := ho
    simp only [List.mem_cons, Prod.mk.injEq, List.not_mem_nil, or_false] at hc
    rcases hc with ⟨rfl, rfl⟩ | ⟨rfl, rfl⟩
    · exact ⟨12, 3, 13, catW_xIO (by decide), Or.inr ⟨3, rfl, dL_tries_12⟩, Nat.le_of_ble_eq_true rfl, R_iconst_1 dL_tries_13 (R_iret dL_tries_14 rfl hP)⟩
    · exact ⟨15, 3, 16, skW_xIA_xIO (by decide) (catW_xIA (by decide)), Or.inr ⟨3, rfl, dL_tries_15⟩, Nat.le_of_ble_eq_true rfl, R_iconst_2 dL_tries_16 (R_iret dL_tries_17 rfl hP)⟩
theorem C_L_moved {d mc ms : Nat} {g : Gs} {h : Hc} {P : Po} {rs rs2 : List Int} {X O : Nat} {x y : Int} (hX : g.1[X]? = some (10, 16, rs)) (hO : g.1[O]? = some (14, 1, rs2)) (g1 : g.2.1 = 1) (K : Call d mc ms mX11_moved [vR X, vI x, vI y] g h (WrJ [(xIO, 1)] O g P)) : CallH (d + 1) mc ms mL_moved [vR X, vI x, vI y, vR O] g h P := by
  refine CallH_of ⟨by decide, rfl⟩ (Nat.le_of_ble_eq_true rfl) (ls := [vR X, vI x, vI y, vR O, vU]) rfl ?_
  refine aL3 dL_moved_0 ?_
  refine R_iconst_0 dL_moved_1 ?_
  refine aL0 dL_moved_2 ?_
  refine iL1 dL_moved_3 ?_
  refine iL2 dL_moved_4 ?_
  refine R_invCg (av := [vI x, vI y]) (st := [vI 0, vR O]) rfl dL_moved_5 kL_88 hX rfl (Nat.le_of_ble_eq_true rfl) (Nat.le_refl _) (Nat.le_refl _) (K.mono ?_)
  rintro o g2 h2 ⟨rfl, ho⟩
  refine ⟨fun e => absurd (e.symm.trans g1) (by decide), ?_⟩
  match o, ho with
  | .inl (some v), ho =>
    obtain ⟨i, rfl, hP⟩ := ho
    refine R_i2l dL_moved_8 ?_
    refine R_last dL_moved_9 hO (Int.le_refl 0) (by decide) ?_
    refine R_goto dL_moved_10 ?_
    exact R_iconst_0 dL_moved_17 (R_iret dL_moved_18 rfl hP)
  | .inr E, ho =>
    obtain ⟨c, hc, hP⟩ := ho
    simp only [List.mem_cons, Prod.mk.injEq, List.not_mem_nil, or_false] at hc
    obtain ⟨rfl, rfl⟩ := hc
    exact ⟨13, 4, 15, catW_xIO (by decide), Or.inl dL_moved_13, Nat.le_of_ble_eq_true rfl, R_iconst_1 dL_moved_15 (R_iret dL_moved_16 rfl hP)⟩
theorem C_L_even {d mc ms : Nat} {g : Gs} {h : Hc} {P : Po} {rs rs2 : List Int} {X O : Nat} {x y : Int} (hX : g.1[X]? = some (10, 16, rs)) (hO : g.1[O]? = some (14, 1, rs2)) (g1 : g.2.1 = 1) (K : Call d mc ms mX11_even [vR X, vI x, vI y] g h (WrJ [(xIO, 1)] O g P)) : CallH (d + 1) mc ms mL_even [vR X, vI x, vI y, vR O] g h P := by
  refine CallH_of ⟨by decide, rfl⟩ (Nat.le_of_ble_eq_true rfl) (ls := [vR X, vI x, vI y, vR O, vU]) rfl ?_
  refine aL3 dL_even_0 ?_
  refine R_iconst_0 dL_even_1 ?_
  refine aL0 dL_even_2 ?_
  refine iL1 dL_even_3 ?_
  refine iL2 dL_even_4 ?_
  refine R_invCg (av := [vI x, vI y]) (st := [vI 0, vR O]) rfl dL_even_5 kL_91 hX rfl (Nat.le_of_ble_eq_true rfl) (Nat.le_refl _) (Nat.le_refl _) (K.mono ?_)
  rintro o g2 h2 ⟨rfl, ho⟩
  refine ⟨fun e => absurd (e.symm.trans g1) (by decide), ?_⟩
  match o, ho with
  | .inl (some v), ho =>
    obtain ⟨i, rfl, hP⟩ := ho
    refine R_i2l dL_even_8 ?_
    refine R_last dL_even_9 hO (Int.le_refl 0) (by decide) ?_
    refine R_goto dL_even_10 ?_
    exact R_iconst_0 dL_even_17 (R_iret dL_even_18 rfl hP)
  | .inr E, ho =>
    obtain ⟨c, hc, hP⟩ := ho
    simp only [List.mem_cons, Prod.mk.injEq, List.not_mem_nil, or_false] at hc
    obtain ⟨rfl, rfl⟩ := hc
    exact ⟨13, 4, 15, catW_xIO (by decide), Or.inl dL_even_13, Nat.le_of_ble_eq_true rfl, R_iconst_1 dL_even_15 (R_iret dL_even_16 rfl hP)⟩
theorem C_L_rather {d mc ms : Nat} {g : Gs} {h : Hc} {P : Po} {rs rs2 : List Int} {X O : Nat} {x y : Int} (hX : g.1[X]? = some (10, 16, rs)) (hO : g.1[O]? = some (14, 1, rs2)) (g1 : g.2.1 = 1) (K : Call d mc ms mX11_rather [vR X, vI x, vI y] g h (WrJ [(xIO, 1)] O g P)) : CallH (d + 1) mc ms mL_rather [vR X, vI x, vI y, vR O] g h P := by
  refine CallH_of ⟨by decide, rfl⟩ (Nat.le_of_ble_eq_true rfl) (ls := [vR X, vI x, vI y, vR O, vU]) rfl ?_
  refine aL3 dL_rather_0 ?_
  refine R_iconst_0 dL_rather_1 ?_
  refine aL0 dL_rather_2 ?_
  refine iL1 dL_rather_3 ?_
  refine iL2 dL_rather_4 ?_
  refine R_invCg (av := [vI x, vI y]) (st := [vI 0, vR O]) rfl dL_rather_5 kL_94 hX rfl (Nat.le_of_ble_eq_true rfl) (Nat.le_refl _) (Nat.le_refl _) (K.mono ?_)
  rintro o g2 h2 ⟨rfl, ho⟩
  refine ⟨fun e => absurd (e.symm.trans g1) (by decide), ?_⟩
  match o, ho with
  | .inl (some v), ho =>
    obtain ⟨i, rfl, hP⟩ := ho
    refine R_i2l dL_rather_8 ?_
    refine R_last dL_rather_9 hO (Int.le_refl 0) (by decide) ?_
    refine R_goto dL_rather_10 ?_
    exact R_iconst_0 dL_rather_17 (R_iret dL_rather_18 rfl hP)
  | .inr E, ho =>
    obtain ⟨c, hc, hP⟩ := ho
    simp only [List.mem_cons, Prod.mk.injEq, List.not_mem_nil, or_false] at hc
    obtain ⟨rfl, rfl⟩ := hc
    exact ⟨13, 4, 15, catW_xIO (by decide), Or.inl dL_rather_13, Nat.le_of_ble_eq_true rfl, R_iconst_1 dL_rather_15 (R_iret dL_rather_16 rfl hP)⟩
theorem C_L_pairs {d mc ms : Nat} {g : Gs} {h : Hc} {P : Po} {rs rs2 : List Int} {X O : Nat} {x : Int} (hX : g.1[X]? = some (10, 16, rs)) (hO : g.1[O]? = some (14, 1, rs2)) (g1 : g.2.1 = 1) (K : Call d mc ms mX11_pairs [vR X, vI x] g h (WrJ [(xIO, 1)] O g P)) : CallH (d + 1) mc ms mL_pairs [vR X, vI x, vR O] g h P := by
  refine CallH_of ⟨by decide, rfl⟩ (Nat.le_of_ble_eq_true rfl) (ls := [vR X, vI x, vR O, vU]) rfl ?_
  refine aL2 dL_pairs_0 ?_
  refine R_iconst_0 dL_pairs_1 ?_
  refine aL0 dL_pairs_2 ?_
  refine iL1 dL_pairs_3 ?_
  refine R_invCg (av := [vI x]) (st := [vI 0, vR O]) rfl dL_pairs_4 kL_97 hX rfl (Nat.le_of_ble_eq_true rfl) (Nat.le_refl _) (Nat.le_refl _) (K.mono ?_)
  rintro o g2 h2 ⟨rfl, ho⟩
  refine ⟨fun e => absurd (e.symm.trans g1) (by decide), ?_⟩
  match o, ho with
  | .inl (some v), ho =>
    obtain ⟨i, rfl, hP⟩ := ho
    refine R_i2l dL_pairs_7 ?_
    refine R_last dL_pairs_8 hO (Int.le_refl 0) (by decide) ?_
    refine R_goto dL_pairs_9 ?_
    exact R_iconst_0 dL_pairs_15 (R_iret dL_pairs_16 rfl hP)
  | .inr E, ho =>
    obtain ⟨c, hc, hP⟩ := ho
    simp only [List.mem_cons, Prod.mk.injEq, List.not_mem_nil, or_false] at hc
    obtain ⟨rfl, rfl⟩ := hc
    exact ⟨12, 3, 13, catW_xIO (by decide), Or.inr ⟨3, rfl, dL_pairs_12⟩, Nat.le_of_ble_eq_true rfl, R_iconst_1 dL_pairs_13 (R_iret dL_pairs_14 rfl hP)⟩
theorem C_L_rests {d mc ms : Nat} {g : Gs} {h : Hc} {P : Po} {rs rs2 : List Int} {X O : Nat} {x : Int} (hX : g.1[X]? = some (10, 16, rs)) (hO : g.1[O]? = some (14, 1, rs2)) (g1 : g.2.1 = 1) (K : Call d mc ms mX11_rests [vR X, vI x] g h (WrJ [(xIO, 1)] O g P)) : CallH (d + 1) mc ms mL_rests [vR X, vI x, vR O] g h P := by
  refine CallH_of ⟨by decide, rfl⟩ (Nat.le_of_ble_eq_true rfl) (ls := [vR X, vI x, vR O, vU]) rfl ?_
  refine aL2 dL_rests_0 ?_
  refine R_iconst_0 dL_rests_1 ?_
  refine aL0 dL_rests_2 ?_
  refine iL1 dL_rests_3 ?_
  refine R_invCg (av := [vI x]) (st := [vI 0, vR O]) rfl dL_rests_4 kL_100 hX rfl (Nat.le_of_ble_eq_true rfl) (Nat.le_refl _) (Nat.le_refl _) (K.mono ?_)
  rintro o g2 h2 ⟨rfl, ho⟩
  refine ⟨fun e => absurd (e.symm.trans g1) (by decide), ?_⟩
  match o, ho with
  | .inl (some v), ho =>
    obtain ⟨i, rfl, hP⟩ := ho
    refine R_i2l dL_rests_7 ?_
    refine R_last dL_rests_8 hO (Int.le_refl 0) (by decide) ?_
    refine R_goto dL_rests_9 ?_
    exact R_iconst_0 dL_rests_15 (R_iret dL_rests_16 rfl hP)
  | .inr E, ho =>
    obtain ⟨c, hc, hP⟩ := ho
    simp only [List.mem_cons, Prod.mk.injEq, List.not_mem_nil, or_false] at hc
    obtain ⟨rfl, rfl⟩ := hc
    exact ⟨12, 3, 13, catW_xIO (by decide), Or.inr ⟨3, rfl, dL_rests_12⟩, Nat.le_of_ble_eq_true rfl, R_iconst_1 dL_rests_13 (R_iret dL_rests_14 rfl hP)⟩
theorem C_L_odds {d mc ms : Nat} {g : Gs} {h : Hc} {P : Po} {rs rs2 : List Int} {X O : Nat} {x y : Int} (hX : g.1[X]? = some (10, 16, rs)) (hO : g.1[O]? = some (14, 1, rs2)) (g1 : g.2.1 = 1) (K : Call d mc ms mX11_odds [vR X, vI x, vI y] g h (WrJ [(xIO, 1), (xIA, 2)] O g P)) : CallH (d + 1) mc ms mL_odds [vR X, vI x, vI y, vR O] g h P := by
  refine CallH_of ⟨by decide, rfl⟩ (Nat.le_of_ble_eq_true rfl) (ls := [vR X, vI x, vI y, vR O, vU]) rfl ?_
  refine aL3 dL_odds_0 ?_
  refine R_iconst_0 dL_odds_1 ?_
  refine aL0 dL_odds_2 ?_
  refine iL1 dL_odds_3 ?_
  refine iL2 dL_odds_4 ?_
  refine R_invCg (av := [vI x, vI y]) (st := [vI 0, vR O]) rfl dL_odds_5 kL_103 hX rfl (Nat.le_of_ble_eq_true rfl) (Nat.le_refl _) (Nat.le_refl _) (K.mono ?_)
  rintro o g2 h2 ⟨rfl, ho⟩
  refine ⟨fun e => absurd (e.symm.trans g1) (by decide), ?_⟩
  match o, ho with
  | .inl (some v), ho =>
    obtain ⟨i, rfl, hP⟩ := ho
    refine R_i2l dL_odds_8 ?_
    refine R_last dL_odds_9 hO (Int.le_refl 0) (by decide) ?_
    refine R_goto dL_odds_10 ?_
    exact R_iconst_0 dL_odds_21 (R_iret dL_odds_22 rfl hP)
  | .inr E, ho =>
    obtain ⟨c, hc, hP⟩ := ho
    simp only [List.mem_cons, Prod.mk.injEq, List.not_mem_nil, or_false] at hc
    rcases hc with ⟨rfl, rfl⟩ | ⟨rfl, rfl⟩
    · exact ⟨13, 4, 15, catW_xIO (by decide), Or.inl dL_odds_13, Nat.le_of_ble_eq_true rfl, R_iconst_1 dL_odds_15 (R_iret dL_odds_16 rfl hP)⟩
    · exact ⟨17, 4, 19, skW_xIA_xIO (by decide) (catW_xIA (by decide)), Or.inl dL_odds_17, Nat.le_of_ble_eq_true rfl, R_iconst_2 dL_odds_19 (R_iret dL_odds_20 rfl hP)⟩
theorem C_L_kind {d mc ms : Nat} {g : Gs} {h : Hc} {P : Po} {rs rs2 : List Int} {X O : Nat} {x : Int} (hX : g.1[X]? = some (10, 16, rs)) (hO : g.1[O]? = some (14, 1, rs2)) (g1 : g.2.1 = 1) (K : Call d mc ms mX11_kind [vR X, vI x] g h (WrJ [(xIO, 1)] O g P)) : CallH (d + 1) mc ms mL_kind [vR X, vI x, vR O] g h P := by
  refine CallH_of ⟨by decide, rfl⟩ (Nat.le_of_ble_eq_true rfl) (ls := [vR X, vI x, vR O, vU]) rfl ?_
  refine aL2 dL_kind_0 ?_
  refine R_iconst_0 dL_kind_1 ?_
  refine aL0 dL_kind_2 ?_
  refine iL1 dL_kind_3 ?_
  refine R_invCg (av := [vI x]) (st := [vI 0, vR O]) rfl dL_kind_4 kL_106 hX rfl (Nat.le_of_ble_eq_true rfl) (Nat.le_refl _) (Nat.le_refl _) (K.mono ?_)
  rintro o g2 h2 ⟨rfl, ho⟩
  refine ⟨fun e => absurd (e.symm.trans g1) (by decide), ?_⟩
  match o, ho with
  | .inl (some v), ho =>
    obtain ⟨i, rfl, hP⟩ := ho
    refine R_i2l dL_kind_7 ?_
    refine R_last dL_kind_8 hO (Int.le_refl 0) (by decide) ?_
    refine R_goto dL_kind_9 ?_
    exact R_iconst_0 dL_kind_15 (R_iret dL_kind_16 rfl hP)
  | .inr E, ho =>
    obtain ⟨c, hc, hP⟩ := ho
    simp only [List.mem_cons, Prod.mk.injEq, List.not_mem_nil, or_false] at hc
    obtain ⟨rfl, rfl⟩ := hc
    exact ⟨12, 3, 13, catW_xIO (by decide), Or.inr ⟨3, rfl, dL_kind_12⟩, Nat.le_of_ble_eq_true rfl, R_iconst_1 dL_kind_13 (R_iret dL_kind_14 rfl hP)⟩
theorem C_L_state {d mc ms : Nat} {g : Gs} {h : Hc} {P : Po} {rs rs2 : List Int} {X O : Nat} {x : Int} (hX : g.1[X]? = some (10, 16, rs)) (hO : g.1[O]? = some (14, 1, rs2)) (g1 : g.2.1 = 1) (K : Call d mc ms mX11_state [vR X, vI x] g h (WrJ [(xIA, 1)] O g P)) : CallH (d + 1) mc ms mL_state [vR X, vI x, vR O] g h P := by
  refine CallH_of ⟨by decide, rfl⟩ (Nat.le_of_ble_eq_true rfl) (ls := [vR X, vI x, vR O, vU]) rfl ?_
  refine aL2 dL_state_0 ?_
  refine R_iconst_0 dL_state_1 ?_
  refine aL0 dL_state_2 ?_
  refine iL1 dL_state_3 ?_
  refine R_invCg (av := [vI x]) (st := [vI 0, vR O]) rfl dL_state_4 kL_109 hX rfl (Nat.le_of_ble_eq_true rfl) (Nat.le_refl _) (Nat.le_refl _) (K.mono ?_)
  rintro o g2 h2 ⟨rfl, ho⟩
  refine ⟨fun e => absurd (e.symm.trans g1) (by decide), ?_⟩
  match o, ho with
  | .inl (some v), ho =>
    obtain ⟨i, rfl, hP⟩ := ho
    refine R_i2l dL_state_7 ?_
    refine R_last dL_state_8 hO (Int.le_refl 0) (by decide) ?_
    refine R_goto dL_state_9 ?_
    exact R_iconst_0 dL_state_15 (R_iret dL_state_16 rfl hP)
  | .inr E, ho =>
    obtain ⟨c, hc, hP⟩ := ho
    simp only [List.mem_cons, Prod.mk.injEq, List.not_mem_nil, or_false] at hc
    obtain ⟨rfl, rfl⟩ := hc
    exact ⟨12, 3, 13, catW_xIA (by decide), Or.inr ⟨3, rfl, dL_state_12⟩, Nat.le_of_ble_eq_true rfl, R_iconst_1 dL_state_13 (R_iret dL_state_14 rfl hP)⟩
theorem C_L_ahead {d mc ms : Nat} {g : Gs} {h : Hc} {P : Po} {rs rs2 : List Int} {X O : Nat} {x y : Int} (hX : g.1[X]? = some (10, 16, rs)) (hO : g.1[O]? = some (14, 1, rs2)) (g1 : g.2.1 = 1) (K : Call d mc ms mX11_ahead [vR X, vI x, vI y] g h (WrJ [(xIO, 1), (xIA, 2)] O g P)) : CallH (d + 1) mc ms mL_ahead [vR X, vI x, vI y, vR O] g h P := by
  refine CallH_of ⟨by decide, rfl⟩ (Nat.le_of_ble_eq_true rfl) (ls := [vR X, vI x, vI y, vR O, vU]) rfl ?_
  refine aL3 dL_ahead_0 ?_
  refine R_iconst_0 dL_ahead_1 ?_
  refine aL0 dL_ahead_2 ?_
  refine iL1 dL_ahead_3 ?_
  refine iL2 dL_ahead_4 ?_
  refine R_invCg (av := [vI x, vI y]) (st := [vI 0, vR O]) rfl dL_ahead_5 kL_112 hX rfl (Nat.le_of_ble_eq_true rfl) (Nat.le_refl _) (Nat.le_refl _) (K.mono ?_)
  rintro o g2 h2 ⟨rfl, ho⟩
  refine ⟨fun e => absurd (e.symm.trans g1) (by decide), ?_⟩
  match o, ho with
  | .inl (some v), ho =>
    obtain ⟨i, rfl, hP⟩ := ho
    refine R_i2l dL_ahead_8 ?_
    refine R_last dL_ahead_9 hO (Int.le_refl 0) (by decide) ?_
    refine R_goto dL_ahead_10 ?_
    exact R_iconst_0 dL_ahead_21 (R_iret dL_ahead_22 rfl hP)
  | .inr E, ho =>
    obtain ⟨c, hc, hP⟩ := ho
    simp only [List.mem_cons, Prod.mk.injEq, List.not_mem_nil, or_false] at hc
    rcases hc with ⟨rfl, rfl⟩ | ⟨rfl, rfl⟩
    · exact ⟨13, 4, 15, catW_xIO (by decide), Or.inl dL_ahead_13, Nat.le_of_ble_eq_true rfl, R_iconst_1 dL_ahead_15 (R_iret dL_ahead_16 rfl hP)⟩
    · exact ⟨17, 4, 19, skW_xIA_xIO (by decide) (catW_xIA (by decide)), Or.inl dL_ahead_17, Nat.le_of_ble_eq_true rfl, R_iconst_2 dL_ahead_19 (R_iret dL_ahead_20 rfl hP)⟩
theorem C_L_trial {d mc ms : Nat} {g : Gs} {h : Hc} {P : Po} {rs rs2 : List Int} {X O : Nat} {x y : Int} (hX : g.1[X]? = some (10, 16, rs)) (hO : g.1[O]? = some (14, 1, rs2)) (g1 : g.2.1 = 1) (K : Call d mc ms mX11_trial [vR X, vI x, vI y] g h (WrJ [(xIA, 1)] O g P)) : CallH (d + 1) mc ms mL_trial [vR X, vI x, vI y, vR O] g h P := by
  refine CallH_of ⟨by decide, rfl⟩ (Nat.le_of_ble_eq_true rfl) (ls := [vR X, vI x, vI y, vR O, vU]) rfl ?_
  refine aL3 dL_trial_0 ?_
  refine R_iconst_0 dL_trial_1 ?_
  refine aL0 dL_trial_2 ?_
  refine iL1 dL_trial_3 ?_
  refine iL2 dL_trial_4 ?_
  refine R_invCg (av := [vI x, vI y]) (st := [vI 0, vR O]) rfl dL_trial_5 kL_115 hX rfl (Nat.le_of_ble_eq_true rfl) (Nat.le_refl _) (Nat.le_refl _) (K.mono ?_)
  rintro o g2 h2 ⟨rfl, ho⟩
  refine ⟨fun e => absurd (e.symm.trans g1) (by decide), ?_⟩
  match o, ho with
  | .inl (some v), ho =>
    obtain ⟨i, rfl, hP⟩ := ho
    refine R_i2l dL_trial_8 ?_
    refine R_last dL_trial_9 hO (Int.le_refl 0) (by decide) ?_
    refine R_goto dL_trial_10 ?_
    exact R_iconst_0 dL_trial_17 (R_iret dL_trial_18 rfl hP)
  | .inr E, ho =>
    obtain ⟨c, hc, hP⟩ := ho
    simp only [List.mem_cons, Prod.mk.injEq, List.not_mem_nil, or_false] at hc
    obtain ⟨rfl, rfl⟩ := hc
    exact ⟨13, 4, 15, catW_xIA (by decide), Or.inl dL_trial_13, Nat.le_of_ble_eq_true rfl, R_iconst_1 dL_trial_15 (R_iret dL_trial_16 rfl hP)⟩
theorem C_L_span {d mc ms : Nat} {g : Gs} {h : Hc} {P : Po} {rs rs2 : List Int} {X O : Nat} {x y : Int} (hX : g.1[X]? = some (10, 16, rs)) (hO : g.1[O]? = some (14, 1, rs2)) (g1 : g.2.1 = 1) (K : Call d mc ms mX11_span [vR X, vI x, vI y] g h (WrJ [(xIA, 1)] O g P)) : CallH (d + 1) mc ms mL_span [vR X, vI x, vI y, vR O] g h P := by
  refine CallH_of ⟨by decide, rfl⟩ (Nat.le_of_ble_eq_true rfl) (ls := [vR X, vI x, vI y, vR O, vU]) rfl ?_
  refine aL3 dL_span_0 ?_
  refine R_iconst_0 dL_span_1 ?_
  refine aL0 dL_span_2 ?_
  refine iL1 dL_span_3 ?_
  refine iL2 dL_span_4 ?_
  refine R_invCg (av := [vI x, vI y]) (st := [vI 0, vR O]) rfl dL_span_5 kL_118 hX rfl (Nat.le_of_ble_eq_true rfl) (Nat.le_refl _) (Nat.le_refl _) (K.mono ?_)
  rintro o g2 h2 ⟨rfl, ho⟩
  refine ⟨fun e => absurd (e.symm.trans g1) (by decide), ?_⟩
  match o, ho with
  | .inl (some v), ho =>
    obtain ⟨i, rfl, hP⟩ := ho
    refine R_i2l dL_span_8 ?_
    refine R_last dL_span_9 hO (Int.le_refl 0) (by decide) ?_
    refine R_goto dL_span_10 ?_
    exact R_iconst_0 dL_span_17 (R_iret dL_span_18 rfl hP)
  | .inr E, ho =>
    obtain ⟨c, hc, hP⟩ := ho
    simp only [List.mem_cons, Prod.mk.injEq, List.not_mem_nil, or_false] at hc
    obtain ⟨rfl, rfl⟩ := hc
    exact ⟨13, 4, 15, catW_xIA (by decide), Or.inl dL_span_13, Nat.le_of_ble_eq_true rfl, R_iconst_1 dL_span_15 (R_iret dL_span_16 rfl hP)⟩
theorem C_L_led {d mc ms : Nat} {g : Gs} {h : Hc} {P : Po} {rs rs2 : List Int} {X O : Nat} {x y : Int} (hX : g.1[X]? = some (10, 16, rs)) (hO : g.1[O]? = some (14, 1, rs2)) (g1 : g.2.1 = 1) (K : Call d mc ms mX11_led [vR X, vI x, vI y] g h (WrJ [(xIO, 1)] O g P)) : CallH (d + 1) mc ms mL_led [vR X, vI x, vI y, vR O] g h P := by
  refine CallH_of ⟨by decide, rfl⟩ (Nat.le_of_ble_eq_true rfl) (ls := [vR X, vI x, vI y, vR O, vU]) rfl ?_
  refine aL3 dL_led_0 ?_
  refine R_iconst_0 dL_led_1 ?_
  refine aL0 dL_led_2 ?_
  refine iL1 dL_led_3 ?_
  refine iL2 dL_led_4 ?_
  refine R_invCg (av := [vI x, vI y]) (st := [vI 0, vR O]) rfl dL_led_5 kL_121 hX rfl (Nat.le_of_ble_eq_true rfl) (Nat.le_refl _) (Nat.le_refl _) (K.mono ?_)
  rintro o g2 h2 ⟨rfl, ho⟩
  refine ⟨fun e => absurd (e.symm.trans g1) (by decide), ?_⟩
  match o, ho with
  | .inl (some v), ho =>
    obtain ⟨i, rfl, hP⟩ := ho
    refine R_i2l dL_led_8 ?_
    refine R_last dL_led_9 hO (Int.le_refl 0) (by decide) ?_
    refine R_goto dL_led_10 ?_
    exact R_iconst_0 dL_led_17 (R_iret dL_led_18 rfl hP)
  | .inr E, ho =>
    obtain ⟨c, hc, hP⟩ := ho
    simp only [List.mem_cons, Prod.mk.injEq, List.not_mem_nil, or_false] at hc
    obtain ⟨rfl, rfl⟩ := hc
    exact ⟨13, 4, 15, catW_xIO (by decide), Or.inl dL_led_13, Nat.le_of_ble_eq_true rfl, R_iconst_1 dL_led_15 (R_iret dL_led_16 rfl hP)⟩
theorem C_L_log {d mc ms : Nat} {g : Gs} {h : Hc} {P : Po} {rs rs2 : List Int} {X O : Nat} {x y : Int} (hX : g.1[X]? = some (10, 16, rs)) (hO : g.1[O]? = some (14, 1, rs2)) (g1 : g.2.1 = 1) (K : Call d mc ms mX11_log [vR X, vI x, vI y] g h (WrJ [(xNE, 1)] O g P)) : CallH (d + 1) mc ms mL_log [vR X, vI x, vI y, vR O] g h P := by
  refine CallH_of ⟨by decide, rfl⟩ (Nat.le_of_ble_eq_true rfl) (ls := [vR X, vI x, vI y, vR O, vU]) rfl ?_
  refine aL3 dL_log_0 ?_
  refine R_iconst_0 dL_log_1 ?_
  refine aL0 dL_log_2 ?_
  refine iL1 dL_log_3 ?_
  refine iL2 dL_log_4 ?_
  refine R_invCg (av := [vI x, vI y]) (st := [vI 0, vR O]) rfl dL_log_5 kL_124 hX rfl (Nat.le_of_ble_eq_true rfl) (Nat.le_refl _) (Nat.le_refl _) (K.mono ?_)
  rintro o g2 h2 ⟨rfl, ho⟩
  refine ⟨fun e => absurd (e.symm.trans g1) (by decide), ?_⟩
  match o, ho with
  | .inl (some v), ho =>
    obtain ⟨i, rfl, hP⟩ := ho
    refine R_i2l dL_log_8 ?_
    refine R_last dL_log_9 hO (Int.le_refl 0) (by decide) ?_
    refine R_goto dL_log_10 ?_
    exact R_iconst_0 dL_log_17 (R_iret dL_log_18 rfl hP)
  | .inr E, ho =>
    obtain ⟨c, hc, hP⟩ := ho
    simp only [List.mem_cons, Prod.mk.injEq, List.not_mem_nil, or_false] at hc
    obtain ⟨rfl, rfl⟩ := hc
    exact ⟨13, 4, 15, catW_xNE (by decide), Or.inl dL_log_13, Nat.le_of_ble_eq_true rfl, R_iconst_1 dL_log_15 (R_iret dL_log_16 rfl hP)⟩
