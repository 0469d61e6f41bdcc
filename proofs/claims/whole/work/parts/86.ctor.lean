/-! THE CONSTRUCTORS: the cells behind a row l of cells that are there -/
abbrev Gg : Type := Nat × Nat × (Nat → Int)
section
variable {d kc ks mc ms n9 : Nat} {y yc : Mth} {pc n idx : Nat} {ls st : List AV} {l t : List Sh} {gg : Nat × (Nat × (Nat → Int))} {h : Hc} {P : Po}
theorem newH_a {h : Hc} {a b : Nat} (e : b ≠ a) : newH h a b = h b := setH_a e
theorem newH_s (h : Hc) (a : Nat) : newH h a a = (fun _ => 0) := setH_s h a _
theorem k_g {j : Nat} {c : Sh} (e : t[j]? = some c) : (l ++ t)[l.length + j]? = some c := by
  rw [List.getElem?_append_right (Nat.le_add_right _ _), Nat.add_sub_cancel_left]
  exact e
theorem k_g0 {c : Sh} (e : t[0]? = some c) : (l ++ t)[l.length]? = some c := k_g (j := 0) e
theorem k_set {j : Nat} {c : Sh} : (l ++ t).set (l.length + j) c = l ++ t.set j c := by
  rw [List.set_append_right _ _ (Nat.le_add_right _ _), Nat.add_sub_cancel_left]
theorem k_new {ci N : Nat} {t' : List Sh} (n9 : Nat) (hd : D y pc (.new idx) 3 n) (hn : NW (mC y) idx ci N) (h0 : gg.1 = 0) (e9 : t.length = n9) (et : t ++ [(ci, N, List.replicate N (-1))] = t') (K : Run d kc ks y n ls (vR (l.length + n9) :: st) (l ++ t', gg) (newH h (l.length + n9)) P) : Run d (kc + 1) (ks + N) y pc ls st (l ++ t, gg) h P := by
  refine R_new hd hn h0 ?_
  show Run d kc ks y n ls (vR (l ++ t).length :: st) ((l ++ t) ++ [(ci, N, List.replicate N (-1))], gg) (newH h (l ++ t).length) P
  rw [List.append_assoc, List.length_append, e9, et]
  exact K
theorem k_newI {N : Nat} {t' : List Sh} (n9 : Nat) (hd : D y pc (.newarray .int) 2 n) (hN : N ≤ 60000000) (h0 : gg.1 = 0) (e9 : t.length = n9) (et : t ++ [(13, N, [])] = t') (K : Run d kc ks y n ls (vR (l.length + n9) :: st) (l ++ t', gg) (newH h (l.length + n9)) P) : Run d (kc + 1) (ks + N) y pc ls (vI (N : Int) :: st) (l ++ t, gg) h P := by
  refine R_newI hd lb_int hN h0 ?_
  show Run d kc ks y n ls (vR (l ++ t).length :: st) ((l ++ t) ++ [(13, N, [])], gg) (newH h (l ++ t).length) P
  rw [List.append_assoc, List.length_append, e9, et]
  exact K
theorem k_newJ {N : Nat} {t' : List Sh} (n9 : Nat) (hd : D y pc (.newarray .long) 2 n) (hN : N ≤ 60000000) (h0 : gg.1 = 0) (e9 : t.length = n9) (et : t ++ [(14, N, [])] = t') (K : Run d kc ks y n ls (vR (l.length + n9) :: st) (l ++ t', gg) (newH h (l.length + n9)) P) : Run d (kc + 1) (ks + N) y pc ls (vI (N : Int) :: st) (l ++ t, gg) h P := by
  refine R_newJ hd lb_long hN h0 ?_
  show Run d kc ks y n ls (vR (l ++ t).length :: st) ((l ++ t) ++ [(14, N, [])], gg) (newH h (l ++ t).length) P
  rw [List.append_assoc, List.length_append, e9, et]
  exact K
theorem k_newB {N : Nat} {t' : List Sh} (n9 : Nat) (hd : D y pc (.newarray .byte) 2 n) (hN : N ≤ 60000000) (h0 : gg.1 = 0) (e9 : t.length = n9) (et : t ++ [(12, N, [])] = t') (K : Run d kc ks y n ls (vR (l.length + n9) :: st) (l ++ t', gg) (newH h (l.length + n9)) P) : Run d (kc + 1) (ks + N) y pc ls (vI (N : Int) :: st) (l ++ t, gg) h P := by
  refine R_newB hd lb_byte hN h0 ?_
  show Run d kc ks y n ls (vR (l ++ t).length :: st) ((l ++ t) ++ [(12, N, [])], gg) (newH h (l ++ t).length) P
  rw [List.append_assoc, List.length_append, e9, et]
  exact K
theorem k_newZ {N : Nat} {t' : List Sh} (n9 : Nat) (hd : D y pc (.newarray .boolean) 2 n) (hN : N ≤ 60000000) (h0 : gg.1 = 0) (e9 : t.length = n9) (et : t ++ [(15, N, [])] = t') (K : Run d kc ks y n ls (vR (l.length + n9) :: st) (l ++ t', gg) (newH h (l.length + n9)) P) : Run d (kc + 1) (ks + N) y pc ls (vI (N : Int) :: st) (l ++ t, gg) h P := by
  refine R_newZ hd lb_boolean hN h0 ?_
  show Run d kc ks y n ls (vR (l ++ t).length :: st) ((l ++ t) ++ [(15, N, [])], gg) (newH h (l ++ t).length) P
  rw [List.append_assoc, List.length_append, e9, et]
  exact K
theorem k_anew {N : Nat} {t' : List Sh} (n9 : Nat) (hd : D y pc (.anewarray idx) 3 n) (hcl : Cond.classLink (mC y) idx "HungryBench$Town" ∈ lwg) (hN : N ≤ 60000000) (h0 : gg.1 = 0) (e9 : t.length = n9) (et : t ++ [(16, N, List.replicate N (-1))] = t') (K : Run d kc ks y n ls (vR (l.length + n9) :: st) (l ++ t', gg) (newH h (l.length + n9)) P) : Run d (kc + 1) (ks + N) y pc ls (vI (N : Int) :: st) (l ++ t, gg) h P := by
  refine R_anew hd hcl lb_towns hN h0 ?_
  show Run d kc ks y n ls (vR (l ++ t).length :: st) ((l ++ t) ++ [(16, N, List.replicate N (-1))], gg) (newH h (l ++ t).length) P
  rw [List.append_assoc, List.length_append, e9, et]
  exact K
theorem k_putR {t' : List Sh} {ci k N b : Nat} {rs : List Int} {ty : FieldType} (hd : D y pc (.putfield idx) 3 n) (hf : FPW (mC y) idx ci k N true ty true) (hty : ty.isReference = true) (hin : (mN y).name = "<init>") (hg : t[0]? = some (ci, N, rs)) (hrs : rs.length = N) (et : t.set 0 (ci, N, rs.set k (b : Int)) = t') (K : Run d kc ks y n ls st (l ++ t', gg) h P) : Run d kc ks y pc ls (vR b :: vR l.length :: st) (l ++ t, gg) h P := by
  refine R_putR hd hf hty hin (k_g0 hg) hrs ?_
  show Run d kc ks y n ls st ((l ++ t).set (l.length + 0) (ci, N, rs.set k (b : Int)), gg) h P
  rw [k_set, et]
  exact K
theorem k_aast {t' : List Sh} {j b N N2 : Nat} {rs rs2 : List Int} {i : Int} (hd : D y pc .aastore 1 n) (hg : t[j]? = some (16, N, rs)) (hrs : rs.length = N) (hg2 : (l ++ t)[b]? = some (9, N2, rs2)) (h0 : 0 ≤ i) (h1 : i < (N : Int)) (et : t.set j (16, N, rs.set i.toNat (b : Int)) = t') (K : Run d kc ks y n ls st (l ++ t', gg) h P) : Run d kc ks y pc ls (vR b :: vI i :: vR (l.length + j) :: st) (l ++ t, gg) h P := by
  refine R_aast hd (k_g hg) hrs hg2 h0 h1 ?_
  show Run d kc ks y n ls st ((l ++ t).set (l.length + j) (16, N, rs.set i.toNat (b : Int)), gg) h P
  rw [k_set, et]
  exact K
/-- a constructor of an object that was just made, behind all others: G its cells, F what stands in them -/
def Ini (d mc ms : Nat) (yc : Mth) (obj : Sh) (G : Nat → List Sh) (F : Nat → Hc → Prop) (av : List AV) : Prop := ∀ (l : List Sh) (gg : Nat × (Nat × (Nat → Int))) (h : Hc) (P : Po), gg.1 = 0 → h l.length = (fun _ => 0) → (∀ h', (∀ q, q < l.length → h' q = h q) → F l.length h' → P (.inl none) (l ++ G l.length, gg) h') → Call d mc ms yc (vR l.length :: av) (l ++ [obj], gg) h P
theorem k_ini {obj : Sh} {G : Nat → List Sh} {F : Nat → Hc → Prop} {av : List AV} {kc' ks' : Nat} (hI : Ini d mc ms yc obj G F av) (hG : ∀ a, (G a).length = mc + 1) (h0 : gg.1 = 0) (e9 : t.length = n9) (hz : h (l.length + n9) = fun _ => 0) (e1 : kc = kc' + mc) (e2 : ks = ks' + ms) (K : ∀ h', (∀ q, q < l.length + n9 → h' q = h q) → F (l.length + n9) h' → Run (d + 1) kc' ks' y n ls st (l ++ (t ++ G (l.length + n9)), gg) h' P) : Call d mc ms yc (vR (l.length + n9) :: av) (l ++ (t ++ [obj]), gg) h (Kon (d + 1) (kc - mc) (ks - ms) y n ls st (l ++ (t ++ [obj]), gg) mc P) := by
  have e : (l ++ t).length = l.length + n9 := by rw [List.length_append, e9]
  have q := hI (l ++ t) gg h (Kon (d + 1) (kc - mc) (ks - ms) y n ls st (l ++ (t ++ [obj]), gg) mc P) h0 (by rw [e]; exact hz)
  rw [e, show l ++ t ++ [obj] = l ++ (t ++ [obj]) from List.append_assoc _ _ _] at q
  refine q (fun h' hq hF => ⟨fun _ => ⟨h0, ?_⟩, ?_⟩)
  · show ((l ++ t) ++ G (l.length + n9)).length = (l ++ (t ++ [obj])).length + mc
    rw [List.length_append, List.length_append, List.length_append, List.length_append, hG]
    show l.length + t.length + (mc + 1) = l.length + (t.length + 1) + mc
    omega
  · subst e1
    subst e2
    rw [Nat.add_sub_cancel, Nat.add_sub_cancel, List.append_assoc]
    exact K h' hq hF
end
def tapG (a : Nat) : List Sh := [(8, 6, [((a + 1 : Nat) : Int), ((a + 2 : Nat) : Int), ((a + 3 : Nat) : Int), -1, -1, -1]), (13, 400, []), (13, 401, []), (13, 401, [])]
def logG (a : Nat) : List Sh := [(4, 3, [((a + 1 : Nat) : Int), -1, -1]), (13, 360, [])]
def crtG (tw rl a : Nat) : List Sh := [(1, 3, [(tw : Int), (rl : Int), ((a + 1 : Nat) : Int)]), (13, 10, [])]
def sitG (tw ct a : Nat) : List Sh := [(7, 3, [(tw : Int), (ct : Int), ((a + 1 : Nat) : Int)]), (13, 5, [])]
def aszG (tp tw a : Nat) : List Sh := [(0, 3, [(tp : Int), -1, (tw : Int)])]
def lwtG (tp rl a : Nat) : List Sh := [(3, 3, [(tp : Int), -1, (rl : Int)])]
def mtcG (tw ct a : Nat) : List Sh := [(5, 8, [(tw : Int), (ct : Int), ((a + 1 : Nat) : Int), ((a + 2 : Nat) : Int), ((a + 3 : Nat) : Int), ((a + 4 : Nat) : Int), ((a + 5 : Nat) : Int), -1]), (14, 8, []), (13, 5, []), (13, 5, []), (13, 5, []), (13, 5, [])]
def pasG (a : Nat) : List Sh := [(6, 3, [((a + 1 : Nat) : Int), -1, -1]), (16, 12, (List.range 12).map (fun i => ((paT a i : Nat) : Int)))] ++ townG (paT a 0) ++ townG (paT a 1) ++ townG (paT a 2) ++ townG (paT a 3) ++ townG (paT a 4) ++ townG (paT a 5) ++ townG (paT a 6) ++ townG (paT a 7) ++ townG (paT a 8) ++ townG (paT a 9) ++ townG (paT a 10) ++ townG (paT a 11)
def w0 : Nat → Int := fun i => if i = 7 then 1 else if 20 ≤ i ∧ i < 80 then -1 else 0
set_option maxHeartbeats 400000 in
theorem I_X8_init {d : Nat} : Ini (d + 0) 3 1202 mX8_init (8, 6, List.replicate 6 (-1)) tapG (fun a h => h a 3 = 0) [] := by
  intro l gg h P h0 hz K
  refine Call_of rfl ⟨by decide +kernel, rfl⟩ (Nat.le_of_ble_eq_true rfl) rfl ?_
  refine aL0 dX8_init_0 ?_
  refine R_objInit dX8_init_1 kX8_5 lb_obj (by decide) ?_
  refine aL0 dX8_init_4 ?_
  refine R_sipush dX8_init_5 (by decide) ?_
  refine k_newI (t' := ([(8, 6, [-1, -1, -1, -1, -1, -1]), (13, 400, [])])) (N := 400) 1 dX8_init_8 (by decide) h0 rfl rfl ?_
  refine storH (fun h1 e1 => ?_)
  refine k_putR (t' := ([(8, 6, [((l.length + 1 : Nat) : Int), -1, -1, -1, -1, -1]), (13, 400, [])])) dX8_init_10 fX8_11 rfl rfl rfl rfl rfl ?_
  refine aL0 dX8_init_13 ?_
  refine R_sipush dX8_init_14 (by decide) ?_
  refine k_newI (t' := ([(8, 6, [((l.length + 1 : Nat) : Int), -1, -1, -1, -1, -1]), (13, 400, []), (13, 401, [])])) (N := 401) 2 dX8_init_17 (by decide) h0 rfl rfl ?_
  refine storH (fun h2 e2 => ?_)
  refine k_putR (t' := ([(8, 6, [((l.length + 1 : Nat) : Int), ((l.length + 2 : Nat) : Int), -1, -1, -1, -1]), (13, 400, []), (13, 401, [])])) dX8_init_19 fX8_15 rfl rfl rfl rfl rfl ?_
  refine aL0 dX8_init_22 ?_
  refine R_sipush dX8_init_23 (by decide) ?_
  refine k_newI (t' := ([(8, 6, [((l.length + 1 : Nat) : Int), ((l.length + 2 : Nat) : Int), -1, -1, -1, -1]), (13, 400, []), (13, 401, []), (13, 401, [])])) (N := 401) 3 dX8_init_26 (by decide) h0 rfl rfl ?_
  refine storH (fun h3 e3 => ?_)
  refine k_putR (t' := ([(8, 6, [((l.length + 1 : Nat) : Int), ((l.length + 2 : Nat) : Int), ((l.length + 3 : Nat) : Int), -1, -1, -1]), (13, 400, []), (13, 401, []), (13, 401, [])])) dX8_init_28 fX8_18 rfl rfl rfl rfl rfl ?_
  refine aL0 dX8_init_31 ?_
  refine R_iconst_0 dX8_init_32 ?_
  refine R_putI dX8_init_33 fX8_21 (k_g0 rfl) ?_
  refine storH (fun h4 e4 => ?_)
  refine aL0 dX8_init_36 ?_
  refine R_iconst_0 dX8_init_37 ?_
  refine R_putI dX8_init_38 fX8_25 (k_g0 rfl) ?_
  refine storH (fun h5 e5 => ?_)
  refine aL0 dX8_init_41 ?_
  refine R_iconst_m1 dX8_init_42 ?_
  refine R_putI dX8_init_43 fX8_28 (k_g0 rfl) ?_
  refine storH (fun h6 e6 => ?_)
  exact R_vret dX8_init_46 rfl (K _ (fun q hq => by rw [e6, updH_a (by omega), e5, updH_a (by omega), e4, updH_a (by omega), e3, newH_a (by omega), e2, newH_a (by omega), e1, newH_a (by omega)]) (by show h6 l.length 3 = _; rw [e6, updH_i (by omega), e5, updH_i (by omega), e4, updH_s]))
set_option maxHeartbeats 400000 in
theorem I_X4_init {d : Nat} : Ini (d + 0) 1 360 mX4_init (4, 3, List.replicate 3 (-1)) logG (fun a h => h a 1 = 0 ∧ h a 2 = 0) [] := by
  intro l gg h P h0 hz K
  refine Call_of rfl ⟨by decide +kernel, rfl⟩ (Nat.le_of_ble_eq_true rfl) rfl ?_
  refine aL0 dX4_init_0 ?_
  refine R_objInit dX4_init_1 kX4_3 lb_obj (by decide) ?_
  refine aL0 dX4_init_4 ?_
  refine R_sipush dX4_init_5 (by decide) ?_
  refine k_newI (t' := ([(4, 3, [-1, -1, -1]), (13, 360, [])])) (N := 360) 1 dX4_init_8 (by decide) h0 rfl rfl ?_
  refine storH (fun h1 e1 => ?_)
  refine k_putR (t' := ([(4, 3, [((l.length + 1 : Nat) : Int), -1, -1]), (13, 360, [])])) dX4_init_10 fX4_11 rfl rfl rfl rfl rfl ?_
  refine aL0 dX4_init_13 ?_
  refine R_iconst_0 dX4_init_14 ?_
  refine R_putI dX4_init_15 fX4_15 (k_g0 rfl) ?_
  refine storH (fun h2 e2 => ?_)
  refine aL0 dX4_init_18 ?_
  refine R_iconst_0 dX4_init_19 ?_
  refine R_putI dX4_init_20 fX4_19 (k_g0 rfl) ?_
  refine storH (fun h3 e3 => ?_)
  exact R_vret dX4_init_23 rfl (K _ (fun q hq => by rw [e3, updH_a (by omega), e2, updH_a (by omega), e1, newH_a (by omega)]) (⟨by show h3 l.length 1 = _; rw [e3, updH_i (by omega), e2, updH_s], by show h3 l.length 2 = _; rw [e3, updH_s]⟩))
set_option maxHeartbeats 400000 in
theorem I_X2_init {d : Nat} : Ini (d + 0) 5 468 mX2_init (2, 7, List.replicate 7 (-1)) lawG (fun a h => h a 0 = -1) [] := by
  intro l gg h P h0 hz K
  refine Call_of rfl ⟨by decide +kernel, rfl⟩ (Nat.le_of_ble_eq_true rfl) rfl ?_
  refine aL0 dX2_init_0 ?_
  refine R_objInit dX2_init_1 kX2_5 lb_obj (by decide) ?_
  refine aL0 dX2_init_4 ?_
  refine R_iconst_m1 dX2_init_5 ?_
  refine R_putI dX2_init_6 fX2_11 (k_g0 rfl) ?_
  refine storH (fun h1 e1 => ?_)
  refine aL0 dX2_init_9 ?_
  refine R_iconst_0 dX2_init_10 ?_
  refine R_putI dX2_init_11 fX2_17 (k_g0 rfl) ?_
  refine storH (fun h2 e2 => ?_)
  refine aL0 dX2_init_14 ?_
  refine R_bipush dX2_init_15 (by decide) ?_
  refine k_newI (t' := ([(2, 7, [-1, -1, -1, -1, -1, -1, -1]), (13, 12, [])])) (N := 12) 1 dX2_init_17 (by decide) h0 rfl rfl ?_
  refine storH (fun h3 e3 => ?_)
  refine k_putR (t' := ([(2, 7, [-1, -1, ((l.length + 1 : Nat) : Int), -1, -1, -1, -1]), (13, 12, [])])) dX2_init_19 fX2_20 rfl rfl rfl rfl rfl ?_
  refine aL0 dX2_init_22 ?_
  refine R_bipush dX2_init_23 (by decide) ?_
  refine k_newI (t' := ([(2, 7, [-1, -1, ((l.length + 1 : Nat) : Int), -1, -1, -1, -1]), (13, 12, []), (13, 12, [])])) (N := 12) 2 dX2_init_25 (by decide) h0 rfl rfl ?_
  refine storH (fun h4 e4 => ?_)
  refine k_putR (t' := ([(2, 7, [-1, -1, ((l.length + 1 : Nat) : Int), ((l.length + 2 : Nat) : Int), -1, -1, -1]), (13, 12, []), (13, 12, [])])) dX2_init_27 fX2_24 rfl rfl rfl rfl rfl ?_
  refine aL0 dX2_init_30 ?_
  refine R_bipush dX2_init_31 (by decide) ?_
  refine k_newI (t' := ([(2, 7, [-1, -1, ((l.length + 1 : Nat) : Int), ((l.length + 2 : Nat) : Int), -1, -1, -1]), (13, 12, []), (13, 12, []), (13, 12, [])])) (N := 12) 3 dX2_init_33 (by decide) h0 rfl rfl ?_
  refine storH (fun h5 e5 => ?_)
  refine k_putR (t' := ([(2, 7, [-1, -1, ((l.length + 1 : Nat) : Int), ((l.length + 2 : Nat) : Int), ((l.length + 3 : Nat) : Int), -1, -1]), (13, 12, []), (13, 12, []), (13, 12, [])])) dX2_init_35 fX2_27 rfl rfl rfl rfl rfl ?_
  refine aL0 dX2_init_38 ?_
  refine R_sipush dX2_init_39 (by decide) ?_
  refine k_newI (t' := ([(2, 7, [-1, -1, ((l.length + 1 : Nat) : Int), ((l.length + 2 : Nat) : Int), ((l.length + 3 : Nat) : Int), -1, -1]), (13, 12, []), (13, 12, []), (13, 12, []), (13, 400, [])])) (N := 400) 4 dX2_init_42 (by decide) h0 rfl rfl ?_
  refine storH (fun h6 e6 => ?_)
  refine k_putR (t' := ([(2, 7, [-1, -1, ((l.length + 1 : Nat) : Int), ((l.length + 2 : Nat) : Int), ((l.length + 3 : Nat) : Int), ((l.length + 4 : Nat) : Int), -1]), (13, 12, []), (13, 12, []), (13, 12, []), (13, 400, [])])) dX2_init_44 fX2_30 rfl rfl rfl rfl rfl ?_
  refine aL0 dX2_init_47 ?_
  refine R_bipush dX2_init_48 (by decide) ?_
  refine k_newI (t' := ([(2, 7, [-1, -1, ((l.length + 1 : Nat) : Int), ((l.length + 2 : Nat) : Int), ((l.length + 3 : Nat) : Int), ((l.length + 4 : Nat) : Int), -1]), (13, 12, []), (13, 12, []), (13, 12, []), (13, 400, []), (13, 32, [])])) (N := 32) 5 dX2_init_50 (by decide) h0 rfl rfl ?_
  refine storH (fun h7 e7 => ?_)
  refine k_putR (t' := ([(2, 7, [-1, -1, ((l.length + 1 : Nat) : Int), ((l.length + 2 : Nat) : Int), ((l.length + 3 : Nat) : Int), ((l.length + 4 : Nat) : Int), ((l.length + 5 : Nat) : Int)]), (13, 12, []), (13, 12, []), (13, 12, []), (13, 400, []), (13, 32, [])])) dX2_init_52 fX2_33 rfl rfl rfl rfl rfl ?_
  exact R_vret dX2_init_55 rfl (K _ (fun q hq => by rw [e7, newH_a (by omega), e6, newH_a (by omega), e5, newH_a (by omega), e4, newH_a (by omega), e3, newH_a (by omega), e2, updH_a (by omega), e1, updH_a (by omega)]) (by show h7 l.length 0 = _; rw [e7, newH_a (by omega), e6, newH_a (by omega), e5, newH_a (by omega), e4, newH_a (by omega), e3, newH_a (by omega), e2, updH_i (by omega), e1, updH_s]))
theorem w0_hi {i : Nat} (h : i ≠ 7) (h2 : ¬ (20 ≤ i ∧ i < 80)) : w0 i = 0 := (if_neg h).trans (if_neg h2)
theorem w0_pl {i : Nat} (h2 : 20 ≤ i ∧ i < 80) : w0 i = -1 := (if_neg (by omega)).trans (if_pos h2)
theorem w0_WF : WF w0 := by
  refine ⟨?_, ?_, ?_, ?_, ?_, ?_, ?_, ?_, ?_, ?_, ?_, ?_, ?_, ?_, ?_, ?_, ?_⟩
  · decide
  · decide
  · decide
  · decide
  · decide
  · decide
  · decide
  · show in32 1; unfold in32; omega
  · intro k hk; rw [w0_hi (by omega) (by omega)]; decide
  · intro p hp; exact Or.inl (w0_pl (by omega))
  · intro p q hp hq _ h2; exact absurd (w0_pl (by omega)) h2
  · intro p hp _; exact w0_pl (by omega)
  · intro j hj; rw [w0_hi (by omega) (by omega), w0_hi (by omega) (by omega), w0_hi (by omega) (by omega), w0_hi (by omega) (by omega)]; decide
  · intro c hc; rw [w0_hi (by omega) (by omega), w0_hi (by omega) (by omega), w0_hi (by omega) (by omega), w0_hi (by omega) (by omega), w0_hi (by omega) (by omega), w0_hi (by omega) (by omega), w0_hi (by omega) (by omega)]; decide
  · intro c hc; exact absurd hc (by show ¬ (c : Int) < 0; omega)
  · intro c hc _; exact w0_hi (by omega) (by omega)
  · intro r i hr hi; rw [w0_hi (by omega) (by omega)]; unfold in32; omega
theorem Tw_0 {h : Hc} {t : Nat} (e0 : h t 0 = 0) (e1 : h t 1 = 0) (e2 : h t 2 = 0) (e3 : h t 3 = 0) (e4 : h t 4 = 0) (e5 : h t 5 = 1) (z : ∀ j, (1 ≤ j ∧ j ≤ 7) ∨ j = 9 ∨ j = 13 → h (t + j) = fun _ => 0) (m10 : ∀ c, c < 8 → h (t + 10) c = -1) (m11 : ∀ c, c < 8 → h (t + 11) c = -1) (m12 : ∀ c, c < 60 → h (t + 12) c = -1) (l1 : h (t + 14) 1 = 0) (l2 : h (t + 14) 2 = 0) : Tw h t w0 := by
  have zz : ∀ j i, (1 ≤ j ∧ j ≤ 7) ∨ j = 9 ∨ j = 13 → h (t + j) i = 0 := fun j i hj => congrFun (z j hj) i
  refine ⟨⟨e0, e1, e2, e3, e4, e5⟩, fun j hj => ⟨?_, ?_, ?_, ?_⟩, fun c hc => ⟨?_, ?_, ?_, ?_⟩, fun c hc => ?_, fun c hc _ => ⟨m10 c hc, m11 c hc⟩, fun p hp => by rw [m12 p hp, w0_pl (by omega)], fun k hk => by rw [zz 13 k (by omega), w0_hi (by omega) (by omega)], l2, by rw [l1]; decide, fun ago i hg => ?_⟩
  · rw [zz 1 j (by omega), w0_hi (by omega) (by omega)]
  · rw [zz 2 j (by omega), w0_hi (by omega) (by omega)]
  · rw [zz 3 j (by omega), w0_hi (by omega) (by omega)]
  · rw [zz 4 j (by omega), w0_hi (by omega) (by omega)]
  · rw [zz 5 c (by omega), w0_hi (by omega) (by omega)]
  · rw [zz 6 c (by omega), w0_hi (by omega) (by omega)]
  · rw [zz 7 c (by omega), w0_hi (by omega) (by omega)]
  · rw [zz 9 c (by omega), w0_hi (by omega) (by omega)]
  · exact absurd hc (by show ¬ (c : Int) < 0; omega)
  · exact absurd hg (by show ¬ (ago : Int) < 0; omega)
set_option maxHeartbeats 2000000 in
theorem I_X10_init {d : Nat} : Ini (d + 1) 15 511 mX10_init (9, 20, List.replicate 20 (-1)) townG (fun a h => Tw h a w0) [] := by
  intro l gg h P h0 hz K
  refine Call_of rfl ⟨by decide +kernel, rfl⟩ (Nat.le_of_ble_eq_true rfl) rfl ?_
  refine aL0 dX10_init_0 ?_
  refine R_objInit dX10_init_1 kX10_3 lb_obj (by decide) ?_
  refine aL0 dX10_init_4 ?_
  refine R_iconst_0 dX10_init_5 ?_
  refine R_putI dX10_init_6 fX10_9 (k_g0 rfl) ?_
  refine storH (fun h1 e1 => ?_)
  refine aL0 dX10_init_9 ?_
  refine R_iconst_0 dX10_init_10 ?_
  refine R_putI dX10_init_11 fX10_15 (k_g0 rfl) ?_
  refine storH (fun h2 e2 => ?_)
  refine aL0 dX10_init_14 ?_
  refine R_iconst_0 dX10_init_15 ?_
  refine R_putI dX10_init_16 fX10_18 (k_g0 rfl) ?_
  refine storH (fun h3 e3 => ?_)
  refine aL0 dX10_init_19 ?_
  refine R_iconst_0 dX10_init_20 ?_
  refine R_putI dX10_init_21 fX10_21 (k_g0 rfl) ?_
  refine storH (fun h4 e4 => ?_)
  refine aL0 dX10_init_24 ?_
  refine R_iconst_0 dX10_init_25 ?_
  refine R_putI dX10_init_26 fX10_24 (k_g0 rfl) ?_
  refine storH (fun h5 e5 => ?_)
  refine aL0 dX10_init_29 ?_
  refine R_iconst_1 dX10_init_30 ?_
  refine R_putI dX10_init_31 fX10_27 (k_g0 rfl) ?_
  refine storH (fun h6 e6 => ?_)
  refine aL0 dX10_init_34 ?_
  refine R_iconst_5 dX10_init_35 ?_
  refine k_newI (t' := ([(9, 20, [-1, -1, -1, -1, -1, -1, -1, -1, -1, -1, -1, -1, -1, -1, -1, -1, -1, -1, -1, -1]), (13, 5, [])])) (N := 5) 1 dX10_init_36 (by decide) h0 rfl rfl ?_
  refine storH (fun h7 e7 => ?_)
  refine k_putR (t' := ([(9, 20, [-1, -1, -1, -1, -1, -1, ((l.length + 1 : Nat) : Int), -1, -1, -1, -1, -1, -1, -1, -1, -1, -1, -1, -1, -1]), (13, 5, [])])) dX10_init_38 fX10_30 rfl rfl rfl rfl rfl ?_
  refine aL0 dX10_init_41 ?_
  refine R_iconst_5 dX10_init_42 ?_
  refine k_newI (t' := ([(9, 20, [-1, -1, -1, -1, -1, -1, ((l.length + 1 : Nat) : Int), -1, -1, -1, -1, -1, -1, -1, -1, -1, -1, -1, -1, -1]), (13, 5, []), (13, 5, [])])) (N := 5) 2 dX10_init_43 (by decide) h0 rfl rfl ?_
  refine storH (fun h8 e8 => ?_)
  refine k_putR (t' := ([(9, 20, [-1, -1, -1, -1, -1, -1, ((l.length + 1 : Nat) : Int), ((l.length + 2 : Nat) : Int), -1, -1, -1, -1, -1, -1, -1, -1, -1, -1, -1, -1]), (13, 5, []), (13, 5, [])])) dX10_init_45 fX10_34 rfl rfl rfl rfl rfl ?_
  refine aL0 dX10_init_48 ?_
  refine R_iconst_5 dX10_init_49 ?_
  refine k_newI (t' := ([(9, 20, [-1, -1, -1, -1, -1, -1, ((l.length + 1 : Nat) : Int), ((l.length + 2 : Nat) : Int), -1, -1, -1, -1, -1, -1, -1, -1, -1, -1, -1, -1]), (13, 5, []), (13, 5, []), (13, 5, [])])) (N := 5) 3 dX10_init_50 (by decide) h0 rfl rfl ?_
  refine storH (fun h9 e9 => ?_)
  refine k_putR (t' := ([(9, 20, [-1, -1, -1, -1, -1, -1, ((l.length + 1 : Nat) : Int), ((l.length + 2 : Nat) : Int), ((l.length + 3 : Nat) : Int), -1, -1, -1, -1, -1, -1, -1, -1, -1, -1, -1]), (13, 5, []), (13, 5, []), (13, 5, [])])) dX10_init_52 fX10_37 rfl rfl rfl rfl rfl ?_
  refine aL0 dX10_init_55 ?_
  refine R_iconst_5 dX10_init_56 ?_
  refine k_newI (t' := ([(9, 20, [-1, -1, -1, -1, -1, -1, ((l.length + 1 : Nat) : Int), ((l.length + 2 : Nat) : Int), ((l.length + 3 : Nat) : Int), -1, -1, -1, -1, -1, -1, -1, -1, -1, -1, -1]), (13, 5, []), (13, 5, []), (13, 5, []), (13, 5, [])])) (N := 5) 4 dX10_init_57 (by decide) h0 rfl rfl ?_
  refine storH (fun h10 e10 => ?_)
  refine k_putR (t' := ([(9, 20, [-1, -1, -1, -1, -1, -1, ((l.length + 1 : Nat) : Int), ((l.length + 2 : Nat) : Int), ((l.length + 3 : Nat) : Int), ((l.length + 4 : Nat) : Int), -1, -1, -1, -1, -1, -1, -1, -1, -1, -1]), (13, 5, []), (13, 5, []), (13, 5, []), (13, 5, [])])) dX10_init_59 fX10_40 rfl rfl rfl rfl rfl ?_
  refine aL0 dX10_init_62 ?_
  refine R_bipush dX10_init_63 (by decide) ?_
  refine k_newI (t' := ([(9, 20, [-1, -1, -1, -1, -1, -1, ((l.length + 1 : Nat) : Int), ((l.length + 2 : Nat) : Int), ((l.length + 3 : Nat) : Int), ((l.length + 4 : Nat) : Int), -1, -1, -1, -1, -1, -1, -1, -1, -1, -1]), (13, 5, []), (13, 5, []), (13, 5, []), (13, 5, []), (13, 8, [])])) (N := 8) 5 dX10_init_65 (by decide) h0 rfl rfl ?_
  refine storH (fun h11 e11 => ?_)
  refine k_putR (t' := ([(9, 20, [-1, -1, -1, -1, -1, -1, ((l.length + 1 : Nat) : Int), ((l.length + 2 : Nat) : Int), ((l.length + 3 : Nat) : Int), ((l.length + 4 : Nat) : Int), ((l.length + 5 : Nat) : Int), -1, -1, -1, -1, -1, -1, -1, -1, -1]), (13, 5, []), (13, 5, []), (13, 5, []), (13, 5, []), (13, 8, [])])) dX10_init_67 fX10_43 rfl rfl rfl rfl rfl ?_
  refine aL0 dX10_init_70 ?_
  refine R_bipush dX10_init_71 (by decide) ?_
  refine k_newI (t' := ([(9, 20, [-1, -1, -1, -1, -1, -1, ((l.length + 1 : Nat) : Int), ((l.length + 2 : Nat) : Int), ((l.length + 3 : Nat) : Int), ((l.length + 4 : Nat) : Int), ((l.length + 5 : Nat) : Int), -1, -1, -1, -1, -1, -1, -1, -1, -1]), (13, 5, []), (13, 5, []), (13, 5, []), (13, 5, []), (13, 8, []), (13, 8, [])])) (N := 8) 6 dX10_init_73 (by decide) h0 rfl rfl ?_
  refine storH (fun h12 e12 => ?_)
  refine k_putR (t' := ([(9, 20, [-1, -1, -1, -1, -1, -1, ((l.length + 1 : Nat) : Int), ((l.length + 2 : Nat) : Int), ((l.length + 3 : Nat) : Int), ((l.length + 4 : Nat) : Int), ((l.length + 5 : Nat) : Int), ((l.length + 6 : Nat) : Int), -1, -1, -1, -1, -1, -1, -1, -1]), (13, 5, []), (13, 5, []), (13, 5, []), (13, 5, []), (13, 8, []), (13, 8, [])])) dX10_init_75 fX10_46 rfl rfl rfl rfl rfl ?_
  refine aL0 dX10_init_78 ?_
  refine R_bipush dX10_init_79 (by decide) ?_
  refine k_newI (t' := ([(9, 20, [-1, -1, -1, -1, -1, -1, ((l.length + 1 : Nat) : Int), ((l.length + 2 : Nat) : Int), ((l.length + 3 : Nat) : Int), ((l.length + 4 : Nat) : Int), ((l.length + 5 : Nat) : Int), ((l.length + 6 : Nat) : Int), -1, -1, -1, -1, -1, -1, -1, -1]), (13, 5, []), (13, 5, []), (13, 5, []), (13, 5, []), (13, 8, []), (13, 8, []), (13, 8, [])])) (N := 8) 7 dX10_init_81 (by decide) h0 rfl rfl ?_
  refine storH (fun h13 e13 => ?_)
  refine k_putR (t' := ([(9, 20, [-1, -1, -1, -1, -1, -1, ((l.length + 1 : Nat) : Int), ((l.length + 2 : Nat) : Int), ((l.length + 3 : Nat) : Int), ((l.length + 4 : Nat) : Int), ((l.length + 5 : Nat) : Int), ((l.length + 6 : Nat) : Int), ((l.length + 7 : Nat) : Int), -1, -1, -1, -1, -1, -1, -1]), (13, 5, []), (13, 5, []), (13, 5, []), (13, 5, []), (13, 8, []), (13, 8, []), (13, 8, [])])) dX10_init_83 fX10_49 rfl rfl rfl rfl rfl ?_
  refine aL0 dX10_init_86 ?_
  refine R_bipush dX10_init_87 (by decide) ?_
  refine k_newI (t' := ([(9, 20, [-1, -1, -1, -1, -1, -1, ((l.length + 1 : Nat) : Int), ((l.length + 2 : Nat) : Int), ((l.length + 3 : Nat) : Int), ((l.length + 4 : Nat) : Int), ((l.length + 5 : Nat) : Int), ((l.length + 6 : Nat) : Int), ((l.length + 7 : Nat) : Int), -1, -1, -1, -1, -1, -1, -1]), (13, 5, []), (13, 5, []), (13, 5, []), (13, 5, []), (13, 8, []), (13, 8, []), (13, 8, []), (13, 8, [])])) (N := 8) 8 dX10_init_89 (by decide) h0 rfl rfl ?_
  refine storH (fun h14 e14 => ?_)
  refine k_putR (t' := ([(9, 20, [-1, -1, -1, -1, -1, -1, ((l.length + 1 : Nat) : Int), ((l.length + 2 : Nat) : Int), ((l.length + 3 : Nat) : Int), ((l.length + 4 : Nat) : Int), ((l.length + 5 : Nat) : Int), ((l.length + 6 : Nat) : Int), ((l.length + 7 : Nat) : Int), ((l.length + 8 : Nat) : Int), -1, -1, -1, -1, -1, -1]), (13, 5, []), (13, 5, []), (13, 5, []), (13, 5, []), (13, 8, []), (13, 8, []), (13, 8, []), (13, 8, [])])) dX10_init_91 fX10_52 rfl rfl rfl rfl rfl ?_
  refine aL0 dX10_init_94 ?_
  refine R_bipush dX10_init_95 (by decide) ?_
  refine k_newI (t' := ([(9, 20, [-1, -1, -1, -1, -1, -1, ((l.length + 1 : Nat) : Int), ((l.length + 2 : Nat) : Int), ((l.length + 3 : Nat) : Int), ((l.length + 4 : Nat) : Int), ((l.length + 5 : Nat) : Int), ((l.length + 6 : Nat) : Int), ((l.length + 7 : Nat) : Int), ((l.length + 8 : Nat) : Int), -1, -1, -1, -1, -1, -1]), (13, 5, []), (13, 5, []), (13, 5, []), (13, 5, []), (13, 8, []), (13, 8, []), (13, 8, []), (13, 8, []), (13, 8, [])])) (N := 8) 9 dX10_init_97 (by decide) h0 rfl rfl ?_
  refine storH (fun h15 e15 => ?_)
  refine k_putR (t' := ([(9, 20, [-1, -1, -1, -1, -1, -1, ((l.length + 1 : Nat) : Int), ((l.length + 2 : Nat) : Int), ((l.length + 3 : Nat) : Int), ((l.length + 4 : Nat) : Int), ((l.length + 5 : Nat) : Int), ((l.length + 6 : Nat) : Int), ((l.length + 7 : Nat) : Int), ((l.length + 8 : Nat) : Int), ((l.length + 9 : Nat) : Int), -1, -1, -1, -1, -1]), (13, 5, []), (13, 5, []), (13, 5, []), (13, 5, []), (13, 8, []), (13, 8, []), (13, 8, []), (13, 8, []), (13, 8, [])])) dX10_init_99 fX10_55 rfl rfl rfl rfl rfl ?_
  refine aL0 dX10_init_102 ?_
  refine R_bipush dX10_init_103 (by decide) ?_
  refine k_newI (t' := ([(9, 20, [-1, -1, -1, -1, -1, -1, ((l.length + 1 : Nat) : Int), ((l.length + 2 : Nat) : Int), ((l.length + 3 : Nat) : Int), ((l.length + 4 : Nat) : Int), ((l.length + 5 : Nat) : Int), ((l.length + 6 : Nat) : Int), ((l.length + 7 : Nat) : Int), ((l.length + 8 : Nat) : Int), ((l.length + 9 : Nat) : Int), -1, -1, -1, -1, -1]), (13, 5, []), (13, 5, []), (13, 5, []), (13, 5, []), (13, 8, []), (13, 8, []), (13, 8, []), (13, 8, []), (13, 8, []), (13, 8, [])])) (N := 8) 10 dX10_init_105 (by decide) h0 rfl rfl ?_
  refine storH (fun h16 e16 => ?_)
  refine k_putR (t' := ([(9, 20, [-1, -1, -1, -1, -1, -1, ((l.length + 1 : Nat) : Int), ((l.length + 2 : Nat) : Int), ((l.length + 3 : Nat) : Int), ((l.length + 4 : Nat) : Int), ((l.length + 5 : Nat) : Int), ((l.length + 6 : Nat) : Int), ((l.length + 7 : Nat) : Int), ((l.length + 8 : Nat) : Int), ((l.length + 9 : Nat) : Int), ((l.length + 10 : Nat) : Int), -1, -1, -1, -1]), (13, 5, []), (13, 5, []), (13, 5, []), (13, 5, []), (13, 8, []), (13, 8, []), (13, 8, []), (13, 8, []), (13, 8, []), (13, 8, [])])) dX10_init_107 fX10_58 rfl rfl rfl rfl rfl ?_
  refine aL0 dX10_init_110 ?_
  refine R_bipush dX10_init_111 (by decide) ?_
  refine k_newI (t' := ([(9, 20, [-1, -1, -1, -1, -1, -1, ((l.length + 1 : Nat) : Int), ((l.length + 2 : Nat) : Int), ((l.length + 3 : Nat) : Int), ((l.length + 4 : Nat) : Int), ((l.length + 5 : Nat) : Int), ((l.length + 6 : Nat) : Int), ((l.length + 7 : Nat) : Int), ((l.length + 8 : Nat) : Int), ((l.length + 9 : Nat) : Int), ((l.length + 10 : Nat) : Int), -1, -1, -1, -1]), (13, 5, []), (13, 5, []), (13, 5, []), (13, 5, []), (13, 8, []), (13, 8, []), (13, 8, []), (13, 8, []), (13, 8, []), (13, 8, []), (13, 8, [])])) (N := 8) 11 dX10_init_113 (by decide) h0 rfl rfl ?_
  refine storH (fun h17 e17 => ?_)
  refine k_putR (t' := ([(9, 20, [-1, -1, -1, -1, -1, -1, ((l.length + 1 : Nat) : Int), ((l.length + 2 : Nat) : Int), ((l.length + 3 : Nat) : Int), ((l.length + 4 : Nat) : Int), ((l.length + 5 : Nat) : Int), ((l.length + 6 : Nat) : Int), ((l.length + 7 : Nat) : Int), ((l.length + 8 : Nat) : Int), ((l.length + 9 : Nat) : Int), ((l.length + 10 : Nat) : Int), ((l.length + 11 : Nat) : Int), -1, -1, -1]), (13, 5, []), (13, 5, []), (13, 5, []), (13, 5, []), (13, 8, []), (13, 8, []), (13, 8, []), (13, 8, []), (13, 8, []), (13, 8, []), (13, 8, [])])) dX10_init_115 fX10_61 rfl rfl rfl rfl rfl ?_
  refine aL0 dX10_init_118 ?_
  refine R_bipush dX10_init_119 (by decide) ?_
  refine k_newI (t' := ([(9, 20, [-1, -1, -1, -1, -1, -1, ((l.length + 1 : Nat) : Int), ((l.length + 2 : Nat) : Int), ((l.length + 3 : Nat) : Int), ((l.length + 4 : Nat) : Int), ((l.length + 5 : Nat) : Int), ((l.length + 6 : Nat) : Int), ((l.length + 7 : Nat) : Int), ((l.length + 8 : Nat) : Int), ((l.length + 9 : Nat) : Int), ((l.length + 10 : Nat) : Int), ((l.length + 11 : Nat) : Int), -1, -1, -1]), (13, 5, []), (13, 5, []), (13, 5, []), (13, 5, []), (13, 8, []), (13, 8, []), (13, 8, []), (13, 8, []), (13, 8, []), (13, 8, []), (13, 8, []), (13, 60, [])])) (N := 60) 12 dX10_init_121 (by decide) h0 rfl rfl ?_
  refine storH (fun h18 e18 => ?_)
  refine k_putR (t' := ([(9, 20, [-1, -1, -1, -1, -1, -1, ((l.length + 1 : Nat) : Int), ((l.length + 2 : Nat) : Int), ((l.length + 3 : Nat) : Int), ((l.length + 4 : Nat) : Int), ((l.length + 5 : Nat) : Int), ((l.length + 6 : Nat) : Int), ((l.length + 7 : Nat) : Int), ((l.length + 8 : Nat) : Int), ((l.length + 9 : Nat) : Int), ((l.length + 10 : Nat) : Int), ((l.length + 11 : Nat) : Int), ((l.length + 12 : Nat) : Int), -1, -1]), (13, 5, []), (13, 5, []), (13, 5, []), (13, 5, []), (13, 8, []), (13, 8, []), (13, 8, []), (13, 8, []), (13, 8, []), (13, 8, []), (13, 8, []), (13, 60, [])])) dX10_init_123 fX10_64 rfl rfl rfl rfl rfl ?_
  refine aL0 dX10_init_126 ?_
  refine R_bipush dX10_init_127 (by decide) ?_
  refine k_newI (t' := ([(9, 20, [-1, -1, -1, -1, -1, -1, ((l.length + 1 : Nat) : Int), ((l.length + 2 : Nat) : Int), ((l.length + 3 : Nat) : Int), ((l.length + 4 : Nat) : Int), ((l.length + 5 : Nat) : Int), ((l.length + 6 : Nat) : Int), ((l.length + 7 : Nat) : Int), ((l.length + 8 : Nat) : Int), ((l.length + 9 : Nat) : Int), ((l.length + 10 : Nat) : Int), ((l.length + 11 : Nat) : Int), ((l.length + 12 : Nat) : Int), -1, -1]), (13, 5, []), (13, 5, []), (13, 5, []), (13, 5, []), (13, 8, []), (13, 8, []), (13, 8, []), (13, 8, []), (13, 8, []), (13, 8, []), (13, 8, []), (13, 60, []), (13, 12, [])])) (N := 12) 13 dX10_init_129 (by decide) h0 rfl rfl ?_
  refine storH (fun h19 e19 => ?_)
  refine k_putR (t' := ([(9, 20, [-1, -1, -1, -1, -1, -1, ((l.length + 1 : Nat) : Int), ((l.length + 2 : Nat) : Int), ((l.length + 3 : Nat) : Int), ((l.length + 4 : Nat) : Int), ((l.length + 5 : Nat) : Int), ((l.length + 6 : Nat) : Int), ((l.length + 7 : Nat) : Int), ((l.length + 8 : Nat) : Int), ((l.length + 9 : Nat) : Int), ((l.length + 10 : Nat) : Int), ((l.length + 11 : Nat) : Int), ((l.length + 12 : Nat) : Int), ((l.length + 13 : Nat) : Int), -1]), (13, 5, []), (13, 5, []), (13, 5, []), (13, 5, []), (13, 8, []), (13, 8, []), (13, 8, []), (13, 8, []), (13, 8, []), (13, 8, []), (13, 8, []), (13, 60, []), (13, 12, [])])) dX10_init_131 fX10_67 rfl rfl rfl rfl rfl ?_
  refine aL0 dX10_init_134 ?_
  refine k_new (t' := ([(9, 20, [-1, -1, -1, -1, -1, -1, ((l.length + 1 : Nat) : Int), ((l.length + 2 : Nat) : Int), ((l.length + 3 : Nat) : Int), ((l.length + 4 : Nat) : Int), ((l.length + 5 : Nat) : Int), ((l.length + 6 : Nat) : Int), ((l.length + 7 : Nat) : Int), ((l.length + 8 : Nat) : Int), ((l.length + 9 : Nat) : Int), ((l.length + 10 : Nat) : Int), ((l.length + 11 : Nat) : Int), ((l.length + 12 : Nat) : Int), ((l.length + 13 : Nat) : Int), -1]), (13, 5, []), (13, 5, []), (13, 5, []), (13, 5, []), (13, 8, []), (13, 8, []), (13, 8, []), (13, 8, []), (13, 8, []), (13, 8, []), (13, 8, []), (13, 60, []), (13, 12, [])] ++ [(4, 3, [-1, -1, -1])])) 14 dX10_init_135 wX10_70 h0 rfl rfl ?_
  refine storH (fun h20 e20 => ?_)
  refine dupR dX10_init_138 ?_
  refine invN0 rfl dX10_init_139 kX10_72 (Nat.le_of_ble_eq_true rfl) (by decide) (by decide) (k_ini (t := ([(9, 20, [-1, -1, -1, -1, -1, -1, ((l.length + 1 : Nat) : Int), ((l.length + 2 : Nat) : Int), ((l.length + 3 : Nat) : Int), ((l.length + 4 : Nat) : Int), ((l.length + 5 : Nat) : Int), ((l.length + 6 : Nat) : Int), ((l.length + 7 : Nat) : Int), ((l.length + 8 : Nat) : Int), ((l.length + 9 : Nat) : Int), ((l.length + 10 : Nat) : Int), ((l.length + 11 : Nat) : Int), ((l.length + 12 : Nat) : Int), ((l.length + 13 : Nat) : Int), -1]), (13, 5, []), (13, 5, []), (13, 5, []), (13, 5, []), (13, 8, []), (13, 8, []), (13, 8, []), (13, 8, []), (13, 8, []), (13, 8, []), (13, 8, []), (13, 60, []), (13, 12, [])])) (n9 := 14) (kc' := 0) (ks' := 0) (I_X4_init) (fun _ => rfl) h0 rfl (by rw [e20]; exact newH_s _ _) rfl rfl (fun h21 q21 f21 => ?_))
  refine k_putR (t' := ([(9, 20, [-1, -1, -1, -1, -1, -1, ((l.length + 1 : Nat) : Int), ((l.length + 2 : Nat) : Int), ((l.length + 3 : Nat) : Int), ((l.length + 4 : Nat) : Int), ((l.length + 5 : Nat) : Int), ((l.length + 6 : Nat) : Int), ((l.length + 7 : Nat) : Int), ((l.length + 8 : Nat) : Int), ((l.length + 9 : Nat) : Int), ((l.length + 10 : Nat) : Int), ((l.length + 11 : Nat) : Int), ((l.length + 12 : Nat) : Int), ((l.length + 13 : Nat) : Int), ((l.length + 14 : Nat) : Int)]), (13, 5, []), (13, 5, []), (13, 5, []), (13, 5, []), (13, 8, []), (13, 8, []), (13, 8, []), (13, 8, []), (13, 8, []), (13, 8, []), (13, 8, []), (13, 60, []), (13, 12, [])] ++ logG (l.length + 14))) dX10_init_142 fX10_73 rfl rfl rfl rfl rfl ?_
  refine aL0 dX10_init_145 ?_
  refine R_getR (b := (l.length + 8)) dX10_init_146 fX10_52.r (k_g0 rfl) rfl ?_
  refine R_iconst_m1 dX10_init_149 ?_
  refine invS2 rfl dX10_init_150 kX10_77 (Nat.le_of_ble_eq_true rfl) (Nat.zero_le _) (Nat.zero_le _) (C_J7_fill_53178 (k_g (j := 8) rfl) (by decide) (fun h22 o22 v22 => konV ?_))
  refine aL0 dX10_init_153 ?_
  refine R_getR (b := (l.length + 10)) dX10_init_154 fX10_58.r (k_g0 rfl) rfl ?_
  refine R_iconst_m1 dX10_init_157 ?_
  refine invS2 rfl dX10_init_158 kX10_77 (Nat.le_of_ble_eq_true rfl) (Nat.zero_le _) (Nat.zero_le _) (C_J7_fill_53178 (k_g (j := 10) rfl) (by decide) (fun h23 o23 v23 => konV ?_))
  refine aL0 dX10_init_161 ?_
  refine R_getR (b := (l.length + 11)) dX10_init_162 fX10_61.r (k_g0 rfl) rfl ?_
  refine R_iconst_m1 dX10_init_165 ?_
  refine invS2 rfl dX10_init_166 kX10_77 (Nat.le_of_ble_eq_true rfl) (Nat.zero_le _) (Nat.zero_le _) (C_J7_fill_53178 (k_g (j := 11) rfl) (by decide) (fun h24 o24 v24 => konV ?_))
  refine aL0 dX10_init_169 ?_
  refine R_getR (b := (l.length + 12)) dX10_init_170 fX10_64.r (k_g0 rfl) rfl ?_
  refine R_iconst_m1 dX10_init_173 ?_
  refine invS2 rfl dX10_init_174 kX10_77 (Nat.le_of_ble_eq_true rfl) (Nat.zero_le _) (Nat.zero_le _) (C_J7_fill_53178 (k_g (j := 12) rfl) (by decide) (fun h25 o25 v25 => konV ?_))
  have hFF := Tw_0 (by show h25 l.length 0 = _; rw [o25 _ (by omega), o24 _ (by omega), o23 _ (by omega), o22 _ (by omega), q21 _ (by omega), e20, newH_a (by omega), e19, newH_a (by omega), e18, newH_a (by omega), e17, newH_a (by omega), e16, newH_a (by omega), e15, newH_a (by omega), e14, newH_a (by omega), e13, newH_a (by omega), e12, newH_a (by omega), e11, newH_a (by omega), e10, newH_a (by omega), e9, newH_a (by omega), e8, newH_a (by omega), e7, newH_a (by omega), e6, updH_i (by omega), e5, updH_i (by omega), e4, updH_i (by omega), e3, updH_i (by omega), e2, updH_i (by omega), e1, updH_s]) (by show h25 l.length 1 = _; rw [o25 _ (by omega), o24 _ (by omega), o23 _ (by omega), o22 _ (by omega), q21 _ (by omega), e20, newH_a (by omega), e19, newH_a (by omega), e18, newH_a (by omega), e17, newH_a (by omega), e16, newH_a (by omega), e15, newH_a (by omega), e14, newH_a (by omega), e13, newH_a (by omega), e12, newH_a (by omega), e11, newH_a (by omega), e10, newH_a (by omega), e9, newH_a (by omega), e8, newH_a (by omega), e7, newH_a (by omega), e6, updH_i (by omega), e5, updH_i (by omega), e4, updH_i (by omega), e3, updH_i (by omega), e2, updH_s]) (by show h25 l.length 2 = _; rw [o25 _ (by omega), o24 _ (by omega), o23 _ (by omega), o22 _ (by omega), q21 _ (by omega), e20, newH_a (by omega), e19, newH_a (by omega), e18, newH_a (by omega), e17, newH_a (by omega), e16, newH_a (by omega), e15, newH_a (by omega), e14, newH_a (by omega), e13, newH_a (by omega), e12, newH_a (by omega), e11, newH_a (by omega), e10, newH_a (by omega), e9, newH_a (by omega), e8, newH_a (by omega), e7, newH_a (by omega), e6, updH_i (by omega), e5, updH_i (by omega), e4, updH_i (by omega), e3, updH_s]) (by show h25 l.length 3 = _; rw [o25 _ (by omega), o24 _ (by omega), o23 _ (by omega), o22 _ (by omega), q21 _ (by omega), e20, newH_a (by omega), e19, newH_a (by omega), e18, newH_a (by omega), e17, newH_a (by omega), e16, newH_a (by omega), e15, newH_a (by omega), e14, newH_a (by omega), e13, newH_a (by omega), e12, newH_a (by omega), e11, newH_a (by omega), e10, newH_a (by omega), e9, newH_a (by omega), e8, newH_a (by omega), e7, newH_a (by omega), e6, updH_i (by omega), e5, updH_i (by omega), e4, updH_s]) (by show h25 l.length 4 = _; rw [o25 _ (by omega), o24 _ (by omega), o23 _ (by omega), o22 _ (by omega), q21 _ (by omega), e20, newH_a (by omega), e19, newH_a (by omega), e18, newH_a (by omega), e17, newH_a (by omega), e16, newH_a (by omega), e15, newH_a (by omega), e14, newH_a (by omega), e13, newH_a (by omega), e12, newH_a (by omega), e11, newH_a (by omega), e10, newH_a (by omega), e9, newH_a (by omega), e8, newH_a (by omega), e7, newH_a (by omega), e6, updH_i (by omega), e5, updH_s]) (by show h25 l.length 5 = _; rw [o25 _ (by omega), o24 _ (by omega), o23 _ (by omega), o22 _ (by omega), q21 _ (by omega), e20, newH_a (by omega), e19, newH_a (by omega), e18, newH_a (by omega), e17, newH_a (by omega), e16, newH_a (by omega), e15, newH_a (by omega), e14, newH_a (by omega), e13, newH_a (by omega), e12, newH_a (by omega), e11, newH_a (by omega), e10, newH_a (by omega), e9, newH_a (by omega), e8, newH_a (by omega), e7, newH_a (by omega), e6, updH_s]) (fun j hj => by
    have : j = 1 ∨ j = 2 ∨ j = 3 ∨ j = 4 ∨ j = 5 ∨ j = 6 ∨ j = 7 ∨ j = 9 ∨ j = 13 := by omega
    rcases this with q | q | q | q | q | q | q | q | q <;> subst q
    · rw [o25 _ (by omega), o24 _ (by omega), o23 _ (by omega), o22 _ (by omega), q21 _ (by omega), e20, newH_a (by omega), e19, newH_a (by omega), e18, newH_a (by omega), e17, newH_a (by omega), e16, newH_a (by omega), e15, newH_a (by omega), e14, newH_a (by omega), e13, newH_a (by omega), e12, newH_a (by omega), e11, newH_a (by omega), e10, newH_a (by omega), e9, newH_a (by omega), e8, newH_a (by omega), e7, newH_s]
    · rw [o25 _ (by omega), o24 _ (by omega), o23 _ (by omega), o22 _ (by omega), q21 _ (by omega), e20, newH_a (by omega), e19, newH_a (by omega), e18, newH_a (by omega), e17, newH_a (by omega), e16, newH_a (by omega), e15, newH_a (by omega), e14, newH_a (by omega), e13, newH_a (by omega), e12, newH_a (by omega), e11, newH_a (by omega), e10, newH_a (by omega), e9, newH_a (by omega), e8, newH_s]
    · rw [o25 _ (by omega), o24 _ (by omega), o23 _ (by omega), o22 _ (by omega), q21 _ (by omega), e20, newH_a (by omega), e19, newH_a (by omega), e18, newH_a (by omega), e17, newH_a (by omega), e16, newH_a (by omega), e15, newH_a (by omega), e14, newH_a (by omega), e13, newH_a (by omega), e12, newH_a (by omega), e11, newH_a (by omega), e10, newH_a (by omega), e9, newH_s]
    · rw [o25 _ (by omega), o24 _ (by omega), o23 _ (by omega), o22 _ (by omega), q21 _ (by omega), e20, newH_a (by omega), e19, newH_a (by omega), e18, newH_a (by omega), e17, newH_a (by omega), e16, newH_a (by omega), e15, newH_a (by omega), e14, newH_a (by omega), e13, newH_a (by omega), e12, newH_a (by omega), e11, newH_a (by omega), e10, newH_s]
    · rw [o25 _ (by omega), o24 _ (by omega), o23 _ (by omega), o22 _ (by omega), q21 _ (by omega), e20, newH_a (by omega), e19, newH_a (by omega), e18, newH_a (by omega), e17, newH_a (by omega), e16, newH_a (by omega), e15, newH_a (by omega), e14, newH_a (by omega), e13, newH_a (by omega), e12, newH_a (by omega), e11, newH_s]
    · rw [o25 _ (by omega), o24 _ (by omega), o23 _ (by omega), o22 _ (by omega), q21 _ (by omega), e20, newH_a (by omega), e19, newH_a (by omega), e18, newH_a (by omega), e17, newH_a (by omega), e16, newH_a (by omega), e15, newH_a (by omega), e14, newH_a (by omega), e13, newH_a (by omega), e12, newH_s]
    · rw [o25 _ (by omega), o24 _ (by omega), o23 _ (by omega), o22 _ (by omega), q21 _ (by omega), e20, newH_a (by omega), e19, newH_a (by omega), e18, newH_a (by omega), e17, newH_a (by omega), e16, newH_a (by omega), e15, newH_a (by omega), e14, newH_a (by omega), e13, newH_s]
    · rw [o25 _ (by omega), o24 _ (by omega), o23 _ (by omega), o22 _ (by omega), q21 _ (by omega), e20, newH_a (by omega), e19, newH_a (by omega), e18, newH_a (by omega), e17, newH_a (by omega), e16, newH_a (by omega), e15, newH_s]
    · rw [o25 _ (by omega), o24 _ (by omega), o23 _ (by omega), o22 _ (by omega), q21 _ (by omega), e20, newH_a (by omega), e19, newH_s]) (fun c hc => by rw [o25 _ (by omega), o24 _ (by omega)]; exact v23 c hc) (fun c hc => by rw [o25 _ (by omega)]; exact v24 c hc) (v25) (by rw [o25 _ (by omega), o24 _ (by omega), o23 _ (by omega), o22 _ (by omega)]; exact f21.1) (by rw [o25 _ (by omega), o24 _ (by omega), o23 _ (by omega), o22 _ (by omega)]; exact f21.2)
  exact R_vret dX10_init_177 rfl (K _ (fun q hq => by rw [o25 _ (by omega), o24 _ (by omega), o23 _ (by omega), o22 _ (by omega), q21 _ (by omega), e20, newH_a (by omega), e19, newH_a (by omega), e18, newH_a (by omega), e17, newH_a (by omega), e16, newH_a (by omega), e15, newH_a (by omega), e14, newH_a (by omega), e13, newH_a (by omega), e12, newH_a (by omega), e11, newH_a (by omega), e10, newH_a (by omega), e9, newH_a (by omega), e8, newH_a (by omega), e7, newH_a (by omega), e6, updH_a (by omega), e5, updH_a (by omega), e4, updH_a (by omega), e3, updH_a (by omega), e2, updH_a (by omega), e1, updH_a (by omega)]) (hFF))
set_option maxHeartbeats 400000 in
theorem I_X1_init (tw rl : Nat) {d : Nat} : Ini (d + 0) 1 10 mX1_init (1, 3, List.replicate 3 (-1)) (crtG tw rl) (fun _ _ => True) [vR tw, vR rl] := by
  intro l gg h P h0 hz K
  refine Call_of rfl ⟨by decide +kernel, rfl⟩ (Nat.le_of_ble_eq_true rfl) rfl ?_
  refine aL0 dX1_init_0 ?_
  refine R_objInit dX1_init_1 kX1_3 lb_obj (by decide) ?_
  refine aL0 dX1_init_4 ?_
  refine R_bipush dX1_init_5 (by decide) ?_
  refine k_newI (t' := ([(1, 3, [-1, -1, -1]), (13, 10, [])])) (N := 10) 1 dX1_init_7 (by decide) h0 rfl rfl ?_
  refine storH (fun h1 e1 => ?_)
  refine k_putR (t' := ([(1, 3, [-1, -1, ((l.length + 1 : Nat) : Int)]), (13, 10, [])])) dX1_init_9 fX1_11 rfl rfl rfl rfl rfl ?_
  refine aL0 dX1_init_12 ?_
  refine aL1 dX1_init_13 ?_
  refine k_putR (t' := ([(1, 3, [((tw : Nat) : Int), -1, ((l.length + 1 : Nat) : Int)]), (13, 10, [])])) dX1_init_14 fX1_17 rfl rfl rfl rfl rfl ?_
  refine aL0 dX1_init_17 ?_
  refine aL2 dX1_init_18 ?_
  refine k_putR (t' := ([(1, 3, [((tw : Nat) : Int), ((rl : Nat) : Int), ((l.length + 1 : Nat) : Int)]), (13, 10, [])])) dX1_init_19 fX1_21 rfl rfl rfl rfl rfl ?_
  exact R_vret dX1_init_22 rfl (K _ (fun q hq => by rw [e1, newH_a (by omega)]) (trivial))
set_option maxHeartbeats 400000 in
theorem I_X7_init (tw ct : Nat) {d : Nat} : Ini (d + 0) 1 5 mX7_init (7, 3, List.replicate 3 (-1)) (sitG tw ct) (fun _ _ => True) [vR tw, vR ct] := by
  intro l gg h P h0 hz K
  refine Call_of rfl ⟨by decide +kernel, rfl⟩ (Nat.le_of_ble_eq_true rfl) rfl ?_
  refine aL0 dX7_init_0 ?_
  refine R_objInit dX7_init_1 kX7_3 lb_obj (by decide) ?_
  refine aL0 dX7_init_4 ?_
  refine R_iconst_5 dX7_init_5 ?_
  refine k_newI (t' := ([(7, 3, [-1, -1, -1]), (13, 5, [])])) (N := 5) 1 dX7_init_6 (by decide) h0 rfl rfl ?_
  refine storH (fun h1 e1 => ?_)
  refine k_putR (t' := ([(7, 3, [-1, -1, ((l.length + 1 : Nat) : Int)]), (13, 5, [])])) dX7_init_8 fX7_9 rfl rfl rfl rfl rfl ?_
  refine aL0 dX7_init_11 ?_
  refine aL1 dX7_init_12 ?_
  refine k_putR (t' := ([(7, 3, [((tw : Nat) : Int), -1, ((l.length + 1 : Nat) : Int)]), (13, 5, [])])) dX7_init_13 fX7_15 rfl rfl rfl rfl rfl ?_
  refine aL0 dX7_init_16 ?_
  refine aL2 dX7_init_17 ?_
  refine k_putR (t' := ([(7, 3, [((tw : Nat) : Int), ((ct : Nat) : Int), ((l.length + 1 : Nat) : Int)]), (13, 5, [])])) dX7_init_18 fX7_19 rfl rfl rfl rfl rfl ?_
  exact R_vret dX7_init_21 rfl (K _ (fun q hq => by rw [e1, newH_a (by omega)]) (trivial))
set_option maxHeartbeats 400000 in
theorem I_X5_init (tw ct : Nat) {d : Nat} : Ini (d + 0) 5 28 mX5_init (5, 8, List.replicate 8 (-1)) (mtcG tw ct) (fun _ _ => True) [vR tw, vR ct] := by
  intro l gg h P h0 hz K
  refine Call_of rfl ⟨by decide +kernel, rfl⟩ (Nat.le_of_ble_eq_true rfl) rfl ?_
  refine aL0 dX5_init_0 ?_
  refine R_objInit dX5_init_1 kX5_3 lb_obj (by decide) ?_
  refine aL0 dX5_init_4 ?_
  refine R_bipush dX5_init_5 (by decide) ?_
  refine k_newJ (t' := ([(5, 8, [-1, -1, -1, -1, -1, -1, -1, -1]), (14, 8, [])])) (N := 8) 1 dX5_init_7 (by decide) h0 rfl rfl ?_
  refine storH (fun h1 e1 => ?_)
  refine k_putR (t' := ([(5, 8, [-1, -1, ((l.length + 1 : Nat) : Int), -1, -1, -1, -1, -1]), (14, 8, [])])) dX5_init_9 fX5_9 rfl rfl rfl rfl rfl ?_
  refine aL0 dX5_init_12 ?_
  refine R_iconst_5 dX5_init_13 ?_
  refine k_newI (t' := ([(5, 8, [-1, -1, ((l.length + 1 : Nat) : Int), -1, -1, -1, -1, -1]), (14, 8, []), (13, 5, [])])) (N := 5) 2 dX5_init_14 (by decide) h0 rfl rfl ?_
  refine storH (fun h2 e2 => ?_)
  refine k_putR (t' := ([(5, 8, [-1, -1, ((l.length + 1 : Nat) : Int), ((l.length + 2 : Nat) : Int), -1, -1, -1, -1]), (14, 8, []), (13, 5, [])])) dX5_init_16 fX5_15 rfl rfl rfl rfl rfl ?_
  refine aL0 dX5_init_19 ?_
  refine R_iconst_5 dX5_init_20 ?_
  refine k_newI (t' := ([(5, 8, [-1, -1, ((l.length + 1 : Nat) : Int), ((l.length + 2 : Nat) : Int), -1, -1, -1, -1]), (14, 8, []), (13, 5, []), (13, 5, [])])) (N := 5) 3 dX5_init_21 (by decide) h0 rfl rfl ?_
  refine storH (fun h3 e3 => ?_)
  refine k_putR (t' := ([(5, 8, [-1, -1, ((l.length + 1 : Nat) : Int), ((l.length + 2 : Nat) : Int), ((l.length + 3 : Nat) : Int), -1, -1, -1]), (14, 8, []), (13, 5, []), (13, 5, [])])) dX5_init_23 fX5_19 rfl rfl rfl rfl rfl ?_
  refine aL0 dX5_init_26 ?_
  refine R_iconst_5 dX5_init_27 ?_
  refine k_newI (t' := ([(5, 8, [-1, -1, ((l.length + 1 : Nat) : Int), ((l.length + 2 : Nat) : Int), ((l.length + 3 : Nat) : Int), -1, -1, -1]), (14, 8, []), (13, 5, []), (13, 5, []), (13, 5, [])])) (N := 5) 4 dX5_init_28 (by decide) h0 rfl rfl ?_
  refine storH (fun h4 e4 => ?_)
  refine k_putR (t' := ([(5, 8, [-1, -1, ((l.length + 1 : Nat) : Int), ((l.length + 2 : Nat) : Int), ((l.length + 3 : Nat) : Int), ((l.length + 4 : Nat) : Int), -1, -1]), (14, 8, []), (13, 5, []), (13, 5, []), (13, 5, [])])) dX5_init_30 fX5_22 rfl rfl rfl rfl rfl ?_
  refine aL0 dX5_init_33 ?_
  refine R_iconst_5 dX5_init_34 ?_
  refine k_newI (t' := ([(5, 8, [-1, -1, ((l.length + 1 : Nat) : Int), ((l.length + 2 : Nat) : Int), ((l.length + 3 : Nat) : Int), ((l.length + 4 : Nat) : Int), -1, -1]), (14, 8, []), (13, 5, []), (13, 5, []), (13, 5, []), (13, 5, [])])) (N := 5) 5 dX5_init_35 (by decide) h0 rfl rfl ?_
  refine storH (fun h5 e5 => ?_)
  refine k_putR (t' := ([(5, 8, [-1, -1, ((l.length + 1 : Nat) : Int), ((l.length + 2 : Nat) : Int), ((l.length + 3 : Nat) : Int), ((l.length + 4 : Nat) : Int), ((l.length + 5 : Nat) : Int), -1]), (14, 8, []), (13, 5, []), (13, 5, []), (13, 5, []), (13, 5, [])])) dX5_init_37 fX5_25 rfl rfl rfl rfl rfl ?_
  refine aL0 dX5_init_40 ?_
  refine R_iconst_0 dX5_init_41 ?_
  refine R_putI dX5_init_42 fX5_28 (k_g0 rfl) ?_
  refine storH (fun h6 e6 => ?_)
  refine aL0 dX5_init_45 ?_
  refine aL1 dX5_init_46 ?_
  refine k_putR (t' := ([(5, 8, [((tw : Nat) : Int), -1, ((l.length + 1 : Nat) : Int), ((l.length + 2 : Nat) : Int), ((l.length + 3 : Nat) : Int), ((l.length + 4 : Nat) : Int), ((l.length + 5 : Nat) : Int), -1]), (14, 8, []), (13, 5, []), (13, 5, []), (13, 5, []), (13, 5, [])])) dX5_init_47 fX5_32 rfl rfl rfl rfl rfl ?_
  refine aL0 dX5_init_50 ?_
  refine aL2 dX5_init_51 ?_
  refine k_putR (t' := ([(5, 8, [((tw : Nat) : Int), ((ct : Nat) : Int), ((l.length + 1 : Nat) : Int), ((l.length + 2 : Nat) : Int), ((l.length + 3 : Nat) : Int), ((l.length + 4 : Nat) : Int), ((l.length + 5 : Nat) : Int), -1]), (14, 8, []), (13, 5, []), (13, 5, []), (13, 5, []), (13, 5, [])])) dX5_init_52 fX5_36 rfl rfl rfl rfl rfl ?_
  exact R_vret dX5_init_55 rfl (K _ (fun q hq => by rw [e6, updH_a (by omega), e5, newH_a (by omega), e4, newH_a (by omega), e3, newH_a (by omega), e2, newH_a (by omega), e1, newH_a (by omega)]) (trivial))
theorem C_X9_init_0 {d : Nat} {l : List Sh} {gg : Nat × (Nat × (Nat → Int))} {h : Hc} {P : Po} {x : Nat} {z : Int} (K : P (.inl none) (l ++ [(0, 3, [((x : Nat) : Int), -1, -1])], gg) (updH h l.length 1 z)) : Call (d + 0) 0 0 mX9_init [vR l.length, vR x, vI z] (l ++ [(0, 3, [-1, -1, -1])], gg) h P := by
  refine Call_of rfl ⟨by decide +kernel, rfl⟩ (Nat.le_of_ble_eq_true rfl) rfl ?_
  refine aL0 dX9_init_0 ?_
  refine R_objInit dX9_init_1 kX9_1 lb_obj (by decide) ?_
  refine aL0 dX9_init_4 ?_
  refine aL1 dX9_init_5 ?_
  refine k_putR (t' := ([(0, 3, [((x : Nat) : Int), -1, -1])])) dX9_init_6 fX9_7_0 rfl rfl rfl rfl rfl ?_
  refine aL0 dX9_init_9 ?_
  refine iL2 dX9_init_10 ?_
  refine R_putIF dX9_init_11 fX9_13_0 (k_g0 rfl) rfl ?_
  refine storH (fun h1 e1 => ?_)
  rw [e1]
  exact R_vret dX9_init_14 rfl K
theorem C_X9_init_3 {d : Nat} {l : List Sh} {gg : Nat × (Nat × (Nat → Int))} {h : Hc} {P : Po} {x : Nat} {z : Int} (K : P (.inl none) (l ++ [(3, 3, [((x : Nat) : Int), -1, -1])], gg) (updH h l.length 1 z)) : Call (d + 0) 0 0 mX9_init [vR l.length, vR x, vI z] (l ++ [(3, 3, [-1, -1, -1])], gg) h P := by
  refine Call_of rfl ⟨by decide +kernel, rfl⟩ (Nat.le_of_ble_eq_true rfl) rfl ?_
  refine aL0 dX9_init_0 ?_
  refine R_objInit dX9_init_1 kX9_1 lb_obj (by decide) ?_
  refine aL0 dX9_init_4 ?_
  refine aL1 dX9_init_5 ?_
  refine k_putR (t' := ([(3, 3, [((x : Nat) : Int), -1, -1])])) dX9_init_6 fX9_7_3 rfl rfl rfl rfl rfl ?_
  refine aL0 dX9_init_9 ?_
  refine iL2 dX9_init_10 ?_
  refine R_putIF dX9_init_11 fX9_13_3 (k_g0 rfl) rfl ?_
  refine storH (fun h1 e1 => ?_)
  rw [e1]
  exact R_vret dX9_init_14 rfl K
set_option maxHeartbeats 400000 in
theorem I_X0_init (tp tw : Nat) {d : Nat} : Ini (d + 1) 0 0 mX0_init (0, 3, List.replicate 3 (-1)) (aszG tp tw) (fun a h => h a 1 = 14) [vR tp, vR tw] := by
  intro l gg h P h0 hz K
  refine Call_of rfl ⟨by decide +kernel, rfl⟩ (Nat.le_of_ble_eq_true rfl) rfl ?_
  refine aL0 dX0_init_0 ?_
  refine aL1 dX0_init_1 ?_
  refine R_bipush dX0_init_2 (by decide) ?_
  refine invI2 rfl dX0_init_4 kX0_5 (Nat.le_of_ble_eq_true rfl) (Nat.zero_le _) (Nat.zero_le _) (C_X9_init_0 ⟨fun _ => ⟨h0, by show (l ++ _).length = (l ++ _).length + 0; rw [List.length_append, List.length_append]; rfl⟩, ?_⟩)
  refine storH (fun h1 e1 => ?_)
  refine aL0 dX0_init_7 ?_
  refine aL2 dX0_init_8 ?_
  refine k_putR (t' := ([(0, 3, [((tp : Nat) : Int), -1, ((tw : Nat) : Int)])])) dX0_init_9 fX0_11 rfl rfl rfl rfl rfl ?_
  exact R_vret dX0_init_12 rfl (K _ (fun q hq => by rw [e1, updH_a (by omega)]) (by show h1 l.length 1 = _; rw [e1, updH_s]))
set_option maxHeartbeats 400000 in
theorem I_X3_init (tp rl : Nat) {d : Nat} : Ini (d + 1) 0 0 mX3_init (3, 3, List.replicate 3 (-1)) (lwtG tp rl) (fun a h => h a 1 = 12) [vR tp, vR rl] := by
  intro l gg h P h0 hz K
  refine Call_of rfl ⟨by decide +kernel, rfl⟩ (Nat.le_of_ble_eq_true rfl) rfl ?_
  refine aL0 dX3_init_0 ?_
  refine aL1 dX3_init_1 ?_
  refine R_bipush dX3_init_2 (by decide) ?_
  refine invI2 rfl dX3_init_4 kX3_5 (Nat.le_of_ble_eq_true rfl) (Nat.zero_le _) (Nat.zero_le _) (C_X9_init_3 ⟨fun _ => ⟨h0, by show (l ++ _).length = (l ++ _).length + 0; rw [List.length_append, List.length_append]; rfl⟩, ?_⟩)
  refine storH (fun h1 e1 => ?_)
  refine aL0 dX3_init_7 ?_
  refine aL2 dX3_init_8 ?_
  refine k_putR (t' := ([(3, 3, [((tp : Nat) : Int), -1, ((rl : Nat) : Int)])])) dX3_init_9 fX3_11 rfl rfl rfl rfl rfl ?_
  exact R_vret dX3_init_12 rfl (K _ (fun q hq => by rw [e1, updH_a (by omega)]) (by show h1 l.length 1 = _; rw [e1, updH_s]))
set_option maxHeartbeats 4000000 in
theorem I_X6_init {d : Nat} : Ini (d + 2) 193 6384 mX6_init (6, 3, List.replicate 3 (-1)) pasG (fun a h => h a 1 = 0 ∧ h a 2 = 0) [] := by
  intro l gg h P h0 hz K
  refine Call_of rfl ⟨by decide +kernel, rfl⟩ (Nat.le_of_ble_eq_true rfl) rfl ?_
  refine aL0 dX6_init_0 ?_
  refine R_objInit dX6_init_1 kX6_1 lb_obj (by decide) ?_
  refine aL0 dX6_init_4 ?_
  refine R_bipush dX6_init_5 (by decide) ?_
  refine k_anew (t' := ([(6, 3, [-1, -1, -1]), (16, 12, [-1, -1, -1, -1, -1, -1, -1, -1, -1, -1, -1, -1])])) (N := 12) 1 dX6_init_7 waX6_9 (by decide) h0 rfl rfl ?_
  refine storH (fun h1 e1 => ?_)
  refine k_putR (t' := ([(6, 3, [((l.length + 1 : Nat) : Int), -1, -1]), (16, 12, [-1, -1, -1, -1, -1, -1, -1, -1, -1, -1, -1, -1])])) dX6_init_10 fX6_11 rfl rfl rfl rfl rfl ?_
  refine aL0 dX6_init_13 ?_
  refine R_iconst_0 dX6_init_14 ?_
  refine R_putI dX6_init_15 fX6_15 (k_g0 rfl) ?_
  refine storH (fun h2 e2 => ?_)
  refine aL0 dX6_init_18 ?_
  refine R_iconst_0 dX6_init_19 ?_
  refine R_putI dX6_init_20 fX6_19 (k_g0 rfl) ?_
  refine storH (fun h3 e3 => ?_)
  refine R_iconst_0 dX6_init_23 ?_
  refine iS1 dX6_init_24 ?_
  refine iL1 dX6_init_25 ?_
  refine R_bipush dX6_init_26 (by decide) ?_
  refine R_icmp_ge dX6_init_28 (fun hb => absurd hb (by decide)) (fun _ => ?_)
  refine aL0 dX6_init_31 ?_
  refine R_getR (b := (l.length + 1)) dX6_init_32 fX6_11.r (k_g0 rfl) rfl ?_
  refine iL1 dX6_init_35 ?_
  refine k_new (t' := ([(6, 3, [((l.length + 1 : Nat) : Int), -1, -1]), (16, 12, [-1, -1, -1, -1, -1, -1, -1, -1, -1, -1, -1, -1])] ++ [(9, 20, [-1, -1, -1, -1, -1, -1, -1, -1, -1, -1, -1, -1, -1, -1, -1, -1, -1, -1, -1, -1])])) 2 dX6_init_36 wX6_9 h0 rfl rfl ?_
  refine storH (fun h4 e4 => ?_)
  refine dupR dX6_init_39 ?_
  refine invI0 rfl dX6_init_40 kX6_22 (Nat.le_of_ble_eq_true rfl) (by decide) (by decide) (k_ini (t := ([(6, 3, [((l.length + 1 : Nat) : Int), -1, -1]), (16, 12, [-1, -1, -1, -1, -1, -1, -1, -1, -1, -1, -1, -1])])) (n9 := 2) (kc' := 176) (ks' := 5841) (I_X10_init) (fun _ => rfl) h0 rfl (by rw [e4]; exact newH_s _ _) rfl rfl (fun h5 q5 f5 => ?_))
  refine k_aast (t' := ([(6, 3, [((l.length + 1 : Nat) : Int), -1, -1]), (16, 12, [((l.length + 2 : Nat) : Int), -1, -1, -1, -1, -1, -1, -1, -1, -1, -1, -1])] ++ townG (l.length + 2))) (j := 1) dX6_init_43 rfl rfl (k_g (j := 2) rfl) (by decide) (by decide) rfl ?_
  refine iInc1 dX6_init_44 (v := 1) (by decide) ?_
  refine R_goto dX6_init_47 ?_
  refine iL1 dX6_init_25 ?_
  refine R_bipush dX6_init_26 (by decide) ?_
  refine R_icmp_ge dX6_init_28 (fun hb => absurd hb (by decide)) (fun _ => ?_)
  refine aL0 dX6_init_31 ?_
  refine R_getR (b := (l.length + 1)) dX6_init_32 fX6_11.r (k_g0 rfl) rfl ?_
  refine iL1 dX6_init_35 ?_
  refine k_new (t' := ([(6, 3, [((l.length + 1 : Nat) : Int), -1, -1]), (16, 12, [((l.length + 2 : Nat) : Int), -1, -1, -1, -1, -1, -1, -1, -1, -1, -1, -1])] ++ townG (l.length + 2) ++ [(9, 20, [-1, -1, -1, -1, -1, -1, -1, -1, -1, -1, -1, -1, -1, -1, -1, -1, -1, -1, -1, -1])])) 18 dX6_init_36 wX6_9 h0 rfl rfl ?_
  refine storH (fun h6 e6 => ?_)
  refine dupR dX6_init_39 ?_
  refine invI0 rfl dX6_init_40 kX6_22 (Nat.le_of_ble_eq_true rfl) (by decide) (by decide) (k_ini (t := ([(6, 3, [((l.length + 1 : Nat) : Int), -1, -1]), (16, 12, [((l.length + 2 : Nat) : Int), -1, -1, -1, -1, -1, -1, -1, -1, -1, -1, -1])] ++ townG (l.length + 2))) (n9 := 18) (kc' := 160) (ks' := 5310) (I_X10_init) (fun _ => rfl) h0 rfl (by rw [e6]; exact newH_s _ _) rfl rfl (fun h7 q7 f7 => ?_))
  refine k_aast (t' := ([(6, 3, [((l.length + 1 : Nat) : Int), -1, -1]), (16, 12, [((l.length + 2 : Nat) : Int), ((l.length + 18 : Nat) : Int), -1, -1, -1, -1, -1, -1, -1, -1, -1, -1])] ++ townG (l.length + 2) ++ townG (l.length + 18))) (j := 1) dX6_init_43 rfl rfl (k_g (j := 18) rfl) (by decide) (by decide) rfl ?_
  refine iInc1 dX6_init_44 (v := 2) (by decide) ?_
  refine R_goto dX6_init_47 ?_
  refine iL1 dX6_init_25 ?_
  refine R_bipush dX6_init_26 (by decide) ?_
  refine R_icmp_ge dX6_init_28 (fun hb => absurd hb (by decide)) (fun _ => ?_)
  refine aL0 dX6_init_31 ?_
  refine R_getR (b := (l.length + 1)) dX6_init_32 fX6_11.r (k_g0 rfl) rfl ?_
  refine iL1 dX6_init_35 ?_
  refine k_new (t' := ([(6, 3, [((l.length + 1 : Nat) : Int), -1, -1]), (16, 12, [((l.length + 2 : Nat) : Int), ((l.length + 18 : Nat) : Int), -1, -1, -1, -1, -1, -1, -1, -1, -1, -1])] ++ townG (l.length + 2) ++ townG (l.length + 18) ++ [(9, 20, [-1, -1, -1, -1, -1, -1, -1, -1, -1, -1, -1, -1, -1, -1, -1, -1, -1, -1, -1, -1])])) 34 dX6_init_36 wX6_9 h0 rfl rfl ?_
  refine storH (fun h8 e8 => ?_)
  refine dupR dX6_init_39 ?_
  refine invI0 rfl dX6_init_40 kX6_22 (Nat.le_of_ble_eq_true rfl) (by decide) (by decide) (k_ini (t := ([(6, 3, [((l.length + 1 : Nat) : Int), -1, -1]), (16, 12, [((l.length + 2 : Nat) : Int), ((l.length + 18 : Nat) : Int), -1, -1, -1, -1, -1, -1, -1, -1, -1, -1])] ++ townG (l.length + 2) ++ townG (l.length + 18))) (n9 := 34) (kc' := 144) (ks' := 4779) (I_X10_init) (fun _ => rfl) h0 rfl (by rw [e8]; exact newH_s _ _) rfl rfl (fun h9 q9 f9 => ?_))
  refine k_aast (t' := ([(6, 3, [((l.length + 1 : Nat) : Int), -1, -1]), (16, 12, [((l.length + 2 : Nat) : Int), ((l.length + 18 : Nat) : Int), ((l.length + 34 : Nat) : Int), -1, -1, -1, -1, -1, -1, -1, -1, -1])] ++ townG (l.length + 2) ++ townG (l.length + 18) ++ townG (l.length + 34))) (j := 1) dX6_init_43 rfl rfl (k_g (j := 34) rfl) (by decide) (by decide) rfl ?_
  refine iInc1 dX6_init_44 (v := 3) (by decide) ?_
  refine R_goto dX6_init_47 ?_
  refine iL1 dX6_init_25 ?_
  refine R_bipush dX6_init_26 (by decide) ?_
  refine R_icmp_ge dX6_init_28 (fun hb => absurd hb (by decide)) (fun _ => ?_)
  refine aL0 dX6_init_31 ?_
  refine R_getR (b := (l.length + 1)) dX6_init_32 fX6_11.r (k_g0 rfl) rfl ?_
  refine iL1 dX6_init_35 ?_
  refine k_new (t' := ([(6, 3, [((l.length + 1 : Nat) : Int), -1, -1]), (16, 12, [((l.length + 2 : Nat) : Int), ((l.length + 18 : Nat) : Int), ((l.length + 34 : Nat) : Int), -1, -1, -1, -1, -1, -1, -1, -1, -1])] ++ townG (l.length + 2) ++ townG (l.length + 18) ++ townG (l.length + 34) ++ [(9, 20, [-1, -1, -1, -1, -1, -1, -1, -1, -1, -1, -1, -1, -1, -1, -1, -1, -1, -1, -1, -1])])) 50 dX6_init_36 wX6_9 h0 rfl rfl ?_
  refine storH (fun h10 e10 => ?_)
  refine dupR dX6_init_39 ?_
  refine invI0 rfl dX6_init_40 kX6_22 (Nat.le_of_ble_eq_true rfl) (by decide) (by decide) (k_ini (t := ([(6, 3, [((l.length + 1 : Nat) : Int), -1, -1]), (16, 12, [((l.length + 2 : Nat) : Int), ((l.length + 18 : Nat) : Int), ((l.length + 34 : Nat) : Int), -1, -1, -1, -1, -1, -1, -1, -1, -1])] ++ townG (l.length + 2) ++ townG (l.length + 18) ++ townG (l.length + 34))) (n9 := 50) (kc' := 128) (ks' := 4248) (I_X10_init) (fun _ => rfl) h0 rfl (by rw [e10]; exact newH_s _ _) rfl rfl (fun h11 q11 f11 => ?_))
  refine k_aast (t' := ([(6, 3, [((l.length + 1 : Nat) : Int), -1, -1]), (16, 12, [((l.length + 2 : Nat) : Int), ((l.length + 18 : Nat) : Int), ((l.length + 34 : Nat) : Int), ((l.length + 50 : Nat) : Int), -1, -1, -1, -1, -1, -1, -1, -1])] ++ townG (l.length + 2) ++ townG (l.length + 18) ++ townG (l.length + 34) ++ townG (l.length + 50))) (j := 1) dX6_init_43 rfl rfl (k_g (j := 50) rfl) (by decide) (by decide) rfl ?_
  refine iInc1 dX6_init_44 (v := 4) (by decide) ?_
  refine R_goto dX6_init_47 ?_
  refine iL1 dX6_init_25 ?_
  refine R_bipush dX6_init_26 (by decide) ?_
  refine R_icmp_ge dX6_init_28 (fun hb => absurd hb (by decide)) (fun _ => ?_)
  refine aL0 dX6_init_31 ?_
  refine R_getR (b := (l.length + 1)) dX6_init_32 fX6_11.r (k_g0 rfl) rfl ?_
  refine iL1 dX6_init_35 ?_
  refine k_new (t' := ([(6, 3, [((l.length + 1 : Nat) : Int), -1, -1]), (16, 12, [((l.length + 2 : Nat) : Int), ((l.length + 18 : Nat) : Int), ((l.length + 34 : Nat) : Int), ((l.length + 50 : Nat) : Int), -1, -1, -1, -1, -1, -1, -1, -1])] ++ townG (l.length + 2) ++ townG (l.length + 18) ++ townG (l.length + 34) ++ townG (l.length + 50) ++ [(9, 20, [-1, -1, -1, -1, -1, -1, -1, -1, -1, -1, -1, -1, -1, -1, -1, -1, -1, -1, -1, -1])])) 66 dX6_init_36 wX6_9 h0 rfl rfl ?_
  refine storH (fun h12 e12 => ?_)
  refine dupR dX6_init_39 ?_
  refine invI0 rfl dX6_init_40 kX6_22 (Nat.le_of_ble_eq_true rfl) (by decide) (by decide) (k_ini (t := ([(6, 3, [((l.length + 1 : Nat) : Int), -1, -1]), (16, 12, [((l.length + 2 : Nat) : Int), ((l.length + 18 : Nat) : Int), ((l.length + 34 : Nat) : Int), ((l.length + 50 : Nat) : Int), -1, -1, -1, -1, -1, -1, -1, -1])] ++ townG (l.length + 2) ++ townG (l.length + 18) ++ townG (l.length + 34) ++ townG (l.length + 50))) (n9 := 66) (kc' := 112) (ks' := 3717) (I_X10_init) (fun _ => rfl) h0 rfl (by rw [e12]; exact newH_s _ _) rfl rfl (fun h13 q13 f13 => ?_))
  refine k_aast (t' := ([(6, 3, [((l.length + 1 : Nat) : Int), -1, -1]), (16, 12, [((l.length + 2 : Nat) : Int), ((l.length + 18 : Nat) : Int), ((l.length + 34 : Nat) : Int), ((l.length + 50 : Nat) : Int), ((l.length + 66 : Nat) : Int), -1, -1, -1, -1, -1, -1, -1])] ++ townG (l.length + 2) ++ townG (l.length + 18) ++ townG (l.length + 34) ++ townG (l.length + 50) ++ townG (l.length + 66))) (j := 1) dX6_init_43 rfl rfl (k_g (j := 66) rfl) (by decide) (by decide) rfl ?_
  refine iInc1 dX6_init_44 (v := 5) (by decide) ?_
  refine R_goto dX6_init_47 ?_
  refine iL1 dX6_init_25 ?_
  refine R_bipush dX6_init_26 (by decide) ?_
  refine R_icmp_ge dX6_init_28 (fun hb => absurd hb (by decide)) (fun _ => ?_)
  refine aL0 dX6_init_31 ?_
  refine R_getR (b := (l.length + 1)) dX6_init_32 fX6_11.r (k_g0 rfl) rfl ?_
  refine iL1 dX6_init_35 ?_
  refine k_new (t' := ([(6, 3, [((l.length + 1 : Nat) : Int), -1, -1]), (16, 12, [((l.length + 2 : Nat) : Int), ((l.length + 18 : Nat) : Int), ((l.length + 34 : Nat) : Int), ((l.length + 50 : Nat) : Int), ((l.length + 66 : Nat) : Int), -1, -1, -1, -1, -1, -1, -1])] ++ townG (l.length + 2) ++ townG (l.length + 18) ++ townG (l.length + 34) ++ townG (l.length + 50) ++ townG (l.length + 66) ++ [(9, 20, [-1, -1, -1, -1, -1, -1, -1, -1, -1, -1, -1, -1, -1, -1, -1, -1, -1, -1, -1, -1])])) 82 dX6_init_36 wX6_9 h0 rfl rfl ?_
  refine storH (fun h14 e14 => ?_)
  refine dupR dX6_init_39 ?_
  refine invI0 rfl dX6_init_40 kX6_22 (Nat.le_of_ble_eq_true rfl) (by decide) (by decide) (k_ini (t := ([(6, 3, [((l.length + 1 : Nat) : Int), -1, -1]), (16, 12, [((l.length + 2 : Nat) : Int), ((l.length + 18 : Nat) : Int), ((l.length + 34 : Nat) : Int), ((l.length + 50 : Nat) : Int), ((l.length + 66 : Nat) : Int), -1, -1, -1, -1, -1, -1, -1])] ++ townG (l.length + 2) ++ townG (l.length + 18) ++ townG (l.length + 34) ++ townG (l.length + 50) ++ townG (l.length + 66))) (n9 := 82) (kc' := 96) (ks' := 3186) (I_X10_init) (fun _ => rfl) h0 rfl (by rw [e14]; exact newH_s _ _) rfl rfl (fun h15 q15 f15 => ?_))
  refine k_aast (t' := ([(6, 3, [((l.length + 1 : Nat) : Int), -1, -1]), (16, 12, [((l.length + 2 : Nat) : Int), ((l.length + 18 : Nat) : Int), ((l.length + 34 : Nat) : Int), ((l.length + 50 : Nat) : Int), ((l.length + 66 : Nat) : Int), ((l.length + 82 : Nat) : Int), -1, -1, -1, -1, -1, -1])] ++ townG (l.length + 2) ++ townG (l.length + 18) ++ townG (l.length + 34) ++ townG (l.length + 50) ++ townG (l.length + 66) ++ townG (l.length + 82))) (j := 1) dX6_init_43 rfl rfl (k_g (j := 82) rfl) (by decide) (by decide) rfl ?_
  refine iInc1 dX6_init_44 (v := 6) (by decide) ?_
  refine R_goto dX6_init_47 ?_
  refine iL1 dX6_init_25 ?_
  refine R_bipush dX6_init_26 (by decide) ?_
  refine R_icmp_ge dX6_init_28 (fun hb => absurd hb (by decide)) (fun _ => ?_)
  refine aL0 dX6_init_31 ?_
  refine R_getR (b := (l.length + 1)) dX6_init_32 fX6_11.r (k_g0 rfl) rfl ?_
  refine iL1 dX6_init_35 ?_
  refine k_new (t' := ([(6, 3, [((l.length + 1 : Nat) : Int), -1, -1]), (16, 12, [((l.length + 2 : Nat) : Int), ((l.length + 18 : Nat) : Int), ((l.length + 34 : Nat) : Int), ((l.length + 50 : Nat) : Int), ((l.length + 66 : Nat) : Int), ((l.length + 82 : Nat) : Int), -1, -1, -1, -1, -1, -1])] ++ townG (l.length + 2) ++ townG (l.length + 18) ++ townG (l.length + 34) ++ townG (l.length + 50) ++ townG (l.length + 66) ++ townG (l.length + 82) ++ [(9, 20, [-1, -1, -1, -1, -1, -1, -1, -1, -1, -1, -1, -1, -1, -1, -1, -1, -1, -1, -1, -1])])) 98 dX6_init_36 wX6_9 h0 rfl rfl ?_
  refine storH (fun h16 e16 => ?_)
  refine dupR dX6_init_39 ?_
  refine invI0 rfl dX6_init_40 kX6_22 (Nat.le_of_ble_eq_true rfl) (by decide) (by decide) (k_ini (t := ([(6, 3, [((l.length + 1 : Nat) : Int), -1, -1]), (16, 12, [((l.length + 2 : Nat) : Int), ((l.length + 18 : Nat) : Int), ((l.length + 34 : Nat) : Int), ((l.length + 50 : Nat) : Int), ((l.length + 66 : Nat) : Int), ((l.length + 82 : Nat) : Int), -1, -1, -1, -1, -1, -1])] ++ townG (l.length + 2) ++ townG (l.length + 18) ++ townG (l.length + 34) ++ townG (l.length + 50) ++ townG (l.length + 66) ++ townG (l.length + 82))) (n9 := 98) (kc' := 80) (ks' := 2655) (I_X10_init) (fun _ => rfl) h0 rfl (by rw [e16]; exact newH_s _ _) rfl rfl (fun h17 q17 f17 => ?_))
  refine k_aast (t' := ([(6, 3, [((l.length + 1 : Nat) : Int), -1, -1]), (16, 12, [((l.length + 2 : Nat) : Int), ((l.length + 18 : Nat) : Int), ((l.length + 34 : Nat) : Int), ((l.length + 50 : Nat) : Int), ((l.length + 66 : Nat) : Int), ((l.length + 82 : Nat) : Int), ((l.length + 98 : Nat) : Int), -1, -1, -1, -1, -1])] ++ townG (l.length + 2) ++ townG (l.length + 18) ++ townG (l.length + 34) ++ townG (l.length + 50) ++ townG (l.length + 66) ++ townG (l.length + 82) ++ townG (l.length + 98))) (j := 1) dX6_init_43 rfl rfl (k_g (j := 98) rfl) (by decide) (by decide) rfl ?_
  refine iInc1 dX6_init_44 (v := 7) (by decide) ?_
  refine R_goto dX6_init_47 ?_
  refine iL1 dX6_init_25 ?_
  refine R_bipush dX6_init_26 (by decide) ?_
  refine R_icmp_ge dX6_init_28 (fun hb => absurd hb (by decide)) (fun _ => ?_)
  refine aL0 dX6_init_31 ?_
  refine R_getR (b := (l.length + 1)) dX6_init_32 fX6_11.r (k_g0 rfl) rfl ?_
  refine iL1 dX6_init_35 ?_
  refine k_new (t' := ([(6, 3, [((l.length + 1 : Nat) : Int), -1, -1]), (16, 12, [((l.length + 2 : Nat) : Int), ((l.length + 18 : Nat) : Int), ((l.length + 34 : Nat) : Int), ((l.length + 50 : Nat) : Int), ((l.length + 66 : Nat) : Int), ((l.length + 82 : Nat) : Int), ((l.length + 98 : Nat) : Int), -1, -1, -1, -1, -1])] ++ townG (l.length + 2) ++ townG (l.length + 18) ++ townG (l.length + 34) ++ townG (l.length + 50) ++ townG (l.length + 66) ++ townG (l.length + 82) ++ townG (l.length + 98) ++ [(9, 20, [-1, -1, -1, -1, -1, -1, -1, -1, -1, -1, -1, -1, -1, -1, -1, -1, -1, -1, -1, -1])])) 114 dX6_init_36 wX6_9 h0 rfl rfl ?_
  refine storH (fun h18 e18 => ?_)
  refine dupR dX6_init_39 ?_
  refine invI0 rfl dX6_init_40 kX6_22 (Nat.le_of_ble_eq_true rfl) (by decide) (by decide) (k_ini (t := ([(6, 3, [((l.length + 1 : Nat) : Int), -1, -1]), (16, 12, [((l.length + 2 : Nat) : Int), ((l.length + 18 : Nat) : Int), ((l.length + 34 : Nat) : Int), ((l.length + 50 : Nat) : Int), ((l.length + 66 : Nat) : Int), ((l.length + 82 : Nat) : Int), ((l.length + 98 : Nat) : Int), -1, -1, -1, -1, -1])] ++ townG (l.length + 2) ++ townG (l.length + 18) ++ townG (l.length + 34) ++ townG (l.length + 50) ++ townG (l.length + 66) ++ townG (l.length + 82) ++ townG (l.length + 98))) (n9 := 114) (kc' := 64) (ks' := 2124) (I_X10_init) (fun _ => rfl) h0 rfl (by rw [e18]; exact newH_s _ _) rfl rfl (fun h19 q19 f19 => ?_))
  refine k_aast (t' := ([(6, 3, [((l.length + 1 : Nat) : Int), -1, -1]), (16, 12, [((l.length + 2 : Nat) : Int), ((l.length + 18 : Nat) : Int), ((l.length + 34 : Nat) : Int), ((l.length + 50 : Nat) : Int), ((l.length + 66 : Nat) : Int), ((l.length + 82 : Nat) : Int), ((l.length + 98 : Nat) : Int), ((l.length + 114 : Nat) : Int), -1, -1, -1, -1])] ++ townG (l.length + 2) ++ townG (l.length + 18) ++ townG (l.length + 34) ++ townG (l.length + 50) ++ townG (l.length + 66) ++ townG (l.length + 82) ++ townG (l.length + 98) ++ townG (l.length + 114))) (j := 1) dX6_init_43 rfl rfl (k_g (j := 114) rfl) (by decide) (by decide) rfl ?_
  refine iInc1 dX6_init_44 (v := 8) (by decide) ?_
  refine R_goto dX6_init_47 ?_
  refine iL1 dX6_init_25 ?_
  refine R_bipush dX6_init_26 (by decide) ?_
  refine R_icmp_ge dX6_init_28 (fun hb => absurd hb (by decide)) (fun _ => ?_)
  refine aL0 dX6_init_31 ?_
  refine R_getR (b := (l.length + 1)) dX6_init_32 fX6_11.r (k_g0 rfl) rfl ?_
  refine iL1 dX6_init_35 ?_
  refine k_new (t' := ([(6, 3, [((l.length + 1 : Nat) : Int), -1, -1]), (16, 12, [((l.length + 2 : Nat) : Int), ((l.length + 18 : Nat) : Int), ((l.length + 34 : Nat) : Int), ((l.length + 50 : Nat) : Int), ((l.length + 66 : Nat) : Int), ((l.length + 82 : Nat) : Int), ((l.length + 98 : Nat) : Int), ((l.length + 114 : Nat) : Int), -1, -1, -1, -1])] ++ townG (l.length + 2) ++ townG (l.length + 18) ++ townG (l.length + 34) ++ townG (l.length + 50) ++ townG (l.length + 66) ++ townG (l.length + 82) ++ townG (l.length + 98) ++ townG (l.length + 114) ++ [(9, 20, [-1, -1, -1, -1, -1, -1, -1, -1, -1, -1, -1, -1, -1, -1, -1, -1, -1, -1, -1, -1])])) 130 dX6_init_36 wX6_9 h0 rfl rfl ?_
  refine storH (fun h20 e20 => ?_)
  refine dupR dX6_init_39 ?_
  refine invI0 rfl dX6_init_40 kX6_22 (Nat.le_of_ble_eq_true rfl) (by decide) (by decide) (k_ini (t := ([(6, 3, [((l.length + 1 : Nat) : Int), -1, -1]), (16, 12, [((l.length + 2 : Nat) : Int), ((l.length + 18 : Nat) : Int), ((l.length + 34 : Nat) : Int), ((l.length + 50 : Nat) : Int), ((l.length + 66 : Nat) : Int), ((l.length + 82 : Nat) : Int), ((l.length + 98 : Nat) : Int), ((l.length + 114 : Nat) : Int), -1, -1, -1, -1])] ++ townG (l.length + 2) ++ townG (l.length + 18) ++ townG (l.length + 34) ++ townG (l.length + 50) ++ townG (l.length + 66) ++ townG (l.length + 82) ++ townG (l.length + 98) ++ townG (l.length + 114))) (n9 := 130) (kc' := 48) (ks' := 1593) (I_X10_init) (fun _ => rfl) h0 rfl (by rw [e20]; exact newH_s _ _) rfl rfl (fun h21 q21 f21 => ?_))
  refine k_aast (t' := ([(6, 3, [((l.length + 1 : Nat) : Int), -1, -1]), (16, 12, [((l.length + 2 : Nat) : Int), ((l.length + 18 : Nat) : Int), ((l.length + 34 : Nat) : Int), ((l.length + 50 : Nat) : Int), ((l.length + 66 : Nat) : Int), ((l.length + 82 : Nat) : Int), ((l.length + 98 : Nat) : Int), ((l.length + 114 : Nat) : Int), ((l.length + 130 : Nat) : Int), -1, -1, -1])] ++ townG (l.length + 2) ++ townG (l.length + 18) ++ townG (l.length + 34) ++ townG (l.length + 50) ++ townG (l.length + 66) ++ townG (l.length + 82) ++ townG (l.length + 98) ++ townG (l.length + 114) ++ townG (l.length + 130))) (j := 1) dX6_init_43 rfl rfl (k_g (j := 130) rfl) (by decide) (by decide) rfl ?_
  refine iInc1 dX6_init_44 (v := 9) (by decide) ?_
  refine R_goto dX6_init_47 ?_
  refine iL1 dX6_init_25 ?_
  refine R_bipush dX6_init_26 (by decide) ?_
  refine R_icmp_ge dX6_init_28 (fun hb => absurd hb (by decide)) (fun _ => ?_)
  refine aL0 dX6_init_31 ?_
  refine R_getR (b := (l.length + 1)) dX6_init_32 fX6_11.r (k_g0 rfl) rfl ?_
  refine iL1 dX6_init_35 ?_
  refine k_new (t' := ([(6, 3, [((l.length + 1 : Nat) : Int), -1, -1]), (16, 12, [((l.length + 2 : Nat) : Int), ((l.length + 18 : Nat) : Int), ((l.length + 34 : Nat) : Int), ((l.length + 50 : Nat) : Int), ((l.length + 66 : Nat) : Int), ((l.length + 82 : Nat) : Int), ((l.length + 98 : Nat) : Int), ((l.length + 114 : Nat) : Int), ((l.length + 130 : Nat) : Int), -1, -1, -1])] ++ townG (l.length + 2) ++ townG (l.length + 18) ++ townG (l.length + 34) ++ townG (l.length + 50) ++ townG (l.length + 66) ++ townG (l.length + 82) ++ townG (l.length + 98) ++ townG (l.length + 114) ++ townG (l.length + 130) ++ [(9, 20, [-1, -1, -1, -1, -1, -1, -1, -1, -1, -1, -1, -1, -1, -1, -1, -1, -1, -1, -1, -1])])) 146 dX6_init_36 wX6_9 h0 rfl rfl ?_
  refine storH (fun h22 e22 => ?_)
  refine dupR dX6_init_39 ?_
  refine invI0 rfl dX6_init_40 kX6_22 (Nat.le_of_ble_eq_true rfl) (by decide) (by decide) (k_ini (t := ([(6, 3, [((l.length + 1 : Nat) : Int), -1, -1]), (16, 12, [((l.length + 2 : Nat) : Int), ((l.length + 18 : Nat) : Int), ((l.length + 34 : Nat) : Int), ((l.length + 50 : Nat) : Int), ((l.length + 66 : Nat) : Int), ((l.length + 82 : Nat) : Int), ((l.length + 98 : Nat) : Int), ((l.length + 114 : Nat) : Int), ((l.length + 130 : Nat) : Int), -1, -1, -1])] ++ townG (l.length + 2) ++ townG (l.length + 18) ++ townG (l.length + 34) ++ townG (l.length + 50) ++ townG (l.length + 66) ++ townG (l.length + 82) ++ townG (l.length + 98) ++ townG (l.length + 114) ++ townG (l.length + 130))) (n9 := 146) (kc' := 32) (ks' := 1062) (I_X10_init) (fun _ => rfl) h0 rfl (by rw [e22]; exact newH_s _ _) rfl rfl (fun h23 q23 f23 => ?_))
  refine k_aast (t' := ([(6, 3, [((l.length + 1 : Nat) : Int), -1, -1]), (16, 12, [((l.length + 2 : Nat) : Int), ((l.length + 18 : Nat) : Int), ((l.length + 34 : Nat) : Int), ((l.length + 50 : Nat) : Int), ((l.length + 66 : Nat) : Int), ((l.length + 82 : Nat) : Int), ((l.length + 98 : Nat) : Int), ((l.length + 114 : Nat) : Int), ((l.length + 130 : Nat) : Int), ((l.length + 146 : Nat) : Int), -1, -1])] ++ townG (l.length + 2) ++ townG (l.length + 18) ++ townG (l.length + 34) ++ townG (l.length + 50) ++ townG (l.length + 66) ++ townG (l.length + 82) ++ townG (l.length + 98) ++ townG (l.length + 114) ++ townG (l.length + 130) ++ townG (l.length + 146))) (j := 1) dX6_init_43 rfl rfl (k_g (j := 146) rfl) (by decide) (by decide) rfl ?_
  refine iInc1 dX6_init_44 (v := 10) (by decide) ?_
  refine R_goto dX6_init_47 ?_
  refine iL1 dX6_init_25 ?_
  refine R_bipush dX6_init_26 (by decide) ?_
  refine R_icmp_ge dX6_init_28 (fun hb => absurd hb (by decide)) (fun _ => ?_)
  refine aL0 dX6_init_31 ?_
  refine R_getR (b := (l.length + 1)) dX6_init_32 fX6_11.r (k_g0 rfl) rfl ?_
  refine iL1 dX6_init_35 ?_
  refine k_new (t' := ([(6, 3, [((l.length + 1 : Nat) : Int), -1, -1]), (16, 12, [((l.length + 2 : Nat) : Int), ((l.length + 18 : Nat) : Int), ((l.length + 34 : Nat) : Int), ((l.length + 50 : Nat) : Int), ((l.length + 66 : Nat) : Int), ((l.length + 82 : Nat) : Int), ((l.length + 98 : Nat) : Int), ((l.length + 114 : Nat) : Int), ((l.length + 130 : Nat) : Int), ((l.length + 146 : Nat) : Int), -1, -1])] ++ townG (l.length + 2) ++ townG (l.length + 18) ++ townG (l.length + 34) ++ townG (l.length + 50) ++ townG (l.length + 66) ++ townG (l.length + 82) ++ townG (l.length + 98) ++ townG (l.length + 114) ++ townG (l.length + 130) ++ townG (l.length + 146) ++ [(9, 20, [-1, -1, -1, -1, -1, -1, -1, -1, -1, -1, -1, -1, -1, -1, -1, -1, -1, -1, -1, -1])])) 162 dX6_init_36 wX6_9 h0 rfl rfl ?_
  refine storH (fun h24 e24 => ?_)
  refine dupR dX6_init_39 ?_
  refine invI0 rfl dX6_init_40 kX6_22 (Nat.le_of_ble_eq_true rfl) (by decide) (by decide) (k_ini (t := ([(6, 3, [((l.length + 1 : Nat) : Int), -1, -1]), (16, 12, [((l.length + 2 : Nat) : Int), ((l.length + 18 : Nat) : Int), ((l.length + 34 : Nat) : Int), ((l.length + 50 : Nat) : Int), ((l.length + 66 : Nat) : Int), ((l.length + 82 : Nat) : Int), ((l.length + 98 : Nat) : Int), ((l.length + 114 : Nat) : Int), ((l.length + 130 : Nat) : Int), ((l.length + 146 : Nat) : Int), -1, -1])] ++ townG (l.length + 2) ++ townG (l.length + 18) ++ townG (l.length + 34) ++ townG (l.length + 50) ++ townG (l.length + 66) ++ townG (l.length + 82) ++ townG (l.length + 98) ++ townG (l.length + 114) ++ townG (l.length + 130) ++ townG (l.length + 146))) (n9 := 162) (kc' := 16) (ks' := 531) (I_X10_init) (fun _ => rfl) h0 rfl (by rw [e24]; exact newH_s _ _) rfl rfl (fun h25 q25 f25 => ?_))
  refine k_aast (t' := ([(6, 3, [((l.length + 1 : Nat) : Int), -1, -1]), (16, 12, [((l.length + 2 : Nat) : Int), ((l.length + 18 : Nat) : Int), ((l.length + 34 : Nat) : Int), ((l.length + 50 : Nat) : Int), ((l.length + 66 : Nat) : Int), ((l.length + 82 : Nat) : Int), ((l.length + 98 : Nat) : Int), ((l.length + 114 : Nat) : Int), ((l.length + 130 : Nat) : Int), ((l.length + 146 : Nat) : Int), ((l.length + 162 : Nat) : Int), -1])] ++ townG (l.length + 2) ++ townG (l.length + 18) ++ townG (l.length + 34) ++ townG (l.length + 50) ++ townG (l.length + 66) ++ townG (l.length + 82) ++ townG (l.length + 98) ++ townG (l.length + 114) ++ townG (l.length + 130) ++ townG (l.length + 146) ++ townG (l.length + 162))) (j := 1) dX6_init_43 rfl rfl (k_g (j := 162) rfl) (by decide) (by decide) rfl ?_
  refine iInc1 dX6_init_44 (v := 11) (by decide) ?_
  refine R_goto dX6_init_47 ?_
  refine iL1 dX6_init_25 ?_
  refine R_bipush dX6_init_26 (by decide) ?_
  refine R_icmp_ge dX6_init_28 (fun hb => absurd hb (by decide)) (fun _ => ?_)
  refine aL0 dX6_init_31 ?_
  refine R_getR (b := (l.length + 1)) dX6_init_32 fX6_11.r (k_g0 rfl) rfl ?_
  refine iL1 dX6_init_35 ?_
  refine k_new (t' := ([(6, 3, [((l.length + 1 : Nat) : Int), -1, -1]), (16, 12, [((l.length + 2 : Nat) : Int), ((l.length + 18 : Nat) : Int), ((l.length + 34 : Nat) : Int), ((l.length + 50 : Nat) : Int), ((l.length + 66 : Nat) : Int), ((l.length + 82 : Nat) : Int), ((l.length + 98 : Nat) : Int), ((l.length + 114 : Nat) : Int), ((l.length + 130 : Nat) : Int), ((l.length + 146 : Nat) : Int), ((l.length + 162 : Nat) : Int), -1])] ++ townG (l.length + 2) ++ townG (l.length + 18) ++ townG (l.length + 34) ++ townG (l.length + 50) ++ townG (l.length + 66) ++ townG (l.length + 82) ++ townG (l.length + 98) ++ townG (l.length + 114) ++ townG (l.length + 130) ++ townG (l.length + 146) ++ townG (l.length + 162) ++ [(9, 20, [-1, -1, -1, -1, -1, -1, -1, -1, -1, -1, -1, -1, -1, -1, -1, -1, -1, -1, -1, -1])])) 178 dX6_init_36 wX6_9 h0 rfl rfl ?_
  refine storH (fun h26 e26 => ?_)
  refine dupR dX6_init_39 ?_
  refine invI0 rfl dX6_init_40 kX6_22 (Nat.le_of_ble_eq_true rfl) (by decide) (by decide) (k_ini (t := ([(6, 3, [((l.length + 1 : Nat) : Int), -1, -1]), (16, 12, [((l.length + 2 : Nat) : Int), ((l.length + 18 : Nat) : Int), ((l.length + 34 : Nat) : Int), ((l.length + 50 : Nat) : Int), ((l.length + 66 : Nat) : Int), ((l.length + 82 : Nat) : Int), ((l.length + 98 : Nat) : Int), ((l.length + 114 : Nat) : Int), ((l.length + 130 : Nat) : Int), ((l.length + 146 : Nat) : Int), ((l.length + 162 : Nat) : Int), -1])] ++ townG (l.length + 2) ++ townG (l.length + 18) ++ townG (l.length + 34) ++ townG (l.length + 50) ++ townG (l.length + 66) ++ townG (l.length + 82) ++ townG (l.length + 98) ++ townG (l.length + 114) ++ townG (l.length + 130) ++ townG (l.length + 146) ++ townG (l.length + 162))) (n9 := 178) (kc' := 0) (ks' := 0) (I_X10_init) (fun _ => rfl) h0 rfl (by rw [e26]; exact newH_s _ _) rfl rfl (fun h27 q27 f27 => ?_))
  refine k_aast (t' := ([(6, 3, [((l.length + 1 : Nat) : Int), -1, -1]), (16, 12, [((l.length + 2 : Nat) : Int), ((l.length + 18 : Nat) : Int), ((l.length + 34 : Nat) : Int), ((l.length + 50 : Nat) : Int), ((l.length + 66 : Nat) : Int), ((l.length + 82 : Nat) : Int), ((l.length + 98 : Nat) : Int), ((l.length + 114 : Nat) : Int), ((l.length + 130 : Nat) : Int), ((l.length + 146 : Nat) : Int), ((l.length + 162 : Nat) : Int), ((l.length + 178 : Nat) : Int)])] ++ townG (l.length + 2) ++ townG (l.length + 18) ++ townG (l.length + 34) ++ townG (l.length + 50) ++ townG (l.length + 66) ++ townG (l.length + 82) ++ townG (l.length + 98) ++ townG (l.length + 114) ++ townG (l.length + 130) ++ townG (l.length + 146) ++ townG (l.length + 162) ++ townG (l.length + 178))) (j := 1) dX6_init_43 rfl rfl (k_g (j := 178) rfl) (by decide) (by decide) rfl ?_
  refine iInc1 dX6_init_44 (v := 12) (by decide) ?_
  refine R_goto dX6_init_47 ?_
  refine iL1 dX6_init_25 ?_
  refine R_bipush dX6_init_26 (by decide) ?_
  refine R_icmp_ge dX6_init_28 (fun _ => ?_) (fun hb => absurd hb (by decide))
  exact R_vret dX6_init_50 rfl (K _ (fun q hq => by rw [q27 _ (by omega), e26, newH_a (by omega), q25 _ (by omega), e24, newH_a (by omega), q23 _ (by omega), e22, newH_a (by omega), q21 _ (by omega), e20, newH_a (by omega), q19 _ (by omega), e18, newH_a (by omega), q17 _ (by omega), e16, newH_a (by omega), q15 _ (by omega), e14, newH_a (by omega), q13 _ (by omega), e12, newH_a (by omega), q11 _ (by omega), e10, newH_a (by omega), q9 _ (by omega), e8, newH_a (by omega), q7 _ (by omega), e6, newH_a (by omega), q5 _ (by omega), e4, newH_a (by omega), e3, updH_a (by omega), e2, updH_a (by omega), e1, newH_a (by omega)]) (⟨by show h27 l.length 1 = _; rw [q27 _ (by omega), e26, newH_a (by omega), q25 _ (by omega), e24, newH_a (by omega), q23 _ (by omega), e22, newH_a (by omega), q21 _ (by omega), e20, newH_a (by omega), q19 _ (by omega), e18, newH_a (by omega), q17 _ (by omega), e16, newH_a (by omega), q15 _ (by omega), e14, newH_a (by omega), q13 _ (by omega), e12, newH_a (by omega), q11 _ (by omega), e10, newH_a (by omega), q9 _ (by omega), e8, newH_a (by omega), q7 _ (by omega), e6, newH_a (by omega), q5 _ (by omega), e4, newH_a (by omega), e3, updH_i (by omega), e2, updH_s], by show h27 l.length 2 = _; rw [q27 _ (by omega), e26, newH_a (by omega), q25 _ (by omega), e24, newH_a (by omega), q23 _ (by omega), e22, newH_a (by omega), q21 _ (by omega), e20, newH_a (by omega), q19 _ (by omega), e18, newH_a (by omega), q17 _ (by omega), e16, newH_a (by omega), q15 _ (by omega), e14, newH_a (by omega), q13 _ (by omega), e12, newH_a (by omega), q11 _ (by omega), e10, newH_a (by omega), q9 _ (by omega), e8, newH_a (by omega), q7 _ (by omega), e6, newH_a (by omega), q5 _ (by omega), e4, newH_a (by omega), e3, updH_s]⟩))
def mdlG (a : Nat) : List Sh := mdL a
set_option maxHeartbeats 4000000 in
theorem I_X12_init {d : Nat} : Ini (d + 0) 18 13229 mX12_init (11, 31, List.replicate 31 (-1)) mdlG (fun a h => h (a + 1) = w0 ∧ h a 6 = 0 ∧ h a 7 = 0 ∧ h a 9 = 0 ∧ h a 14 = -1) [] := by
  intro l gg h P h0 hz K
  refine Call_of rfl ⟨by decide +kernel, rfl⟩ (Nat.le_of_ble_eq_true rfl) rfl ?_
  refine aL0 dX12_init_0 ?_
  refine R_objInit dX12_init_1 kX12_7 lb_obj (by decide) ?_
  refine aL0 dX12_init_4 ?_
  refine R_sipush dX12_init_5 (by decide) ?_
  refine k_newI (t' := ([(11, 31, [-1, -1, -1, -1, -1, -1, -1, -1, -1, -1, -1, -1, -1, -1, -1, -1, -1, -1, -1, -1, -1, -1, -1, -1, -1, -1, -1, -1, -1, -1, -1]), (13, 2214, [])])) (N := 2214) 1 dX12_init_8 (by decide) h0 rfl rfl ?_
  refine storH (fun h1 e1 => ?_)
  refine k_putR (t' := ([(11, 31, [-1, ((l.length + 1 : Nat) : Int), -1, -1, -1, -1, -1, -1, -1, -1, -1, -1, -1, -1, -1, -1, -1, -1, -1, -1, -1, -1, -1, -1, -1, -1, -1, -1, -1, -1, -1]), (13, 2214, [])])) dX12_init_10 fX12_13 rfl rfl rfl rfl rfl ?_
  refine aL0 dX12_init_13 ?_
  refine R_sipush dX12_init_14 (by decide) ?_
  refine k_newI (t' := ([(11, 31, [-1, ((l.length + 1 : Nat) : Int), -1, -1, -1, -1, -1, -1, -1, -1, -1, -1, -1, -1, -1, -1, -1, -1, -1, -1, -1, -1, -1, -1, -1, -1, -1, -1, -1, -1, -1]), (13, 2214, []), (13, 1365, [])])) (N := 1365) 2 dX12_init_17 (by decide) h0 rfl rfl ?_
  refine storH (fun h2 e2 => ?_)
  refine k_putR (t' := ([(11, 31, [-1, ((l.length + 1 : Nat) : Int), ((l.length + 2 : Nat) : Int), -1, -1, -1, -1, -1, -1, -1, -1, -1, -1, -1, -1, -1, -1, -1, -1, -1, -1, -1, -1, -1, -1, -1, -1, -1, -1, -1, -1]), (13, 2214, []), (13, 1365, [])])) dX12_init_19 fX12_17 rfl rfl rfl rfl rfl ?_
  refine aL0 dX12_init_22 ?_
  refine R_sipush dX12_init_23 (by decide) ?_
  refine k_newI (t' := ([(11, 31, [-1, ((l.length + 1 : Nat) : Int), ((l.length + 2 : Nat) : Int), -1, -1, -1, -1, -1, -1, -1, -1, -1, -1, -1, -1, -1, -1, -1, -1, -1, -1, -1, -1, -1, -1, -1, -1, -1, -1, -1, -1]), (13, 2214, []), (13, 1365, []), (13, 1365, [])])) (N := 1365) 3 dX12_init_26 (by decide) h0 rfl rfl ?_
  refine storH (fun h3 e3 => ?_)
  refine k_putR (t' := ([(11, 31, [-1, ((l.length + 1 : Nat) : Int), ((l.length + 2 : Nat) : Int), ((l.length + 3 : Nat) : Int), -1, -1, -1, -1, -1, -1, -1, -1, -1, -1, -1, -1, -1, -1, -1, -1, -1, -1, -1, -1, -1, -1, -1, -1, -1, -1, -1]), (13, 2214, []), (13, 1365, []), (13, 1365, [])])) dX12_init_28 fX12_20 rfl rfl rfl rfl rfl ?_
  refine aL0 dX12_init_31 ?_
  refine R_sipush dX12_init_32 (by decide) ?_
  refine k_newI (t' := ([(11, 31, [-1, ((l.length + 1 : Nat) : Int), ((l.length + 2 : Nat) : Int), ((l.length + 3 : Nat) : Int), -1, -1, -1, -1, -1, -1, -1, -1, -1, -1, -1, -1, -1, -1, -1, -1, -1, -1, -1, -1, -1, -1, -1, -1, -1, -1, -1]), (13, 2214, []), (13, 1365, []), (13, 1365, []), (13, 516, [])])) (N := 516) 4 dX12_init_35 (by decide) h0 rfl rfl ?_
  refine storH (fun h4 e4 => ?_)
  refine k_putR (t' := ([(11, 31, [-1, ((l.length + 1 : Nat) : Int), ((l.length + 2 : Nat) : Int), ((l.length + 3 : Nat) : Int), ((l.length + 4 : Nat) : Int), -1, -1, -1, -1, -1, -1, -1, -1, -1, -1, -1, -1, -1, -1, -1, -1, -1, -1, -1, -1, -1, -1, -1, -1, -1, -1]), (13, 2214, []), (13, 1365, []), (13, 1365, []), (13, 516, [])])) dX12_init_37 fX12_23 rfl rfl rfl rfl rfl ?_
  refine aL0 dX12_init_40 ?_
  refine R_sipush dX12_init_41 (by decide) ?_
  refine k_newI (t' := ([(11, 31, [-1, ((l.length + 1 : Nat) : Int), ((l.length + 2 : Nat) : Int), ((l.length + 3 : Nat) : Int), ((l.length + 4 : Nat) : Int), -1, -1, -1, -1, -1, -1, -1, -1, -1, -1, -1, -1, -1, -1, -1, -1, -1, -1, -1, -1, -1, -1, -1, -1, -1, -1]), (13, 2214, []), (13, 1365, []), (13, 1365, []), (13, 516, []), (13, 6192, [])])) (N := 6192) 5 dX12_init_44 (by decide) h0 rfl rfl ?_
  refine storH (fun h5 e5 => ?_)
  refine k_putR (t' := ([(11, 31, [-1, ((l.length + 1 : Nat) : Int), ((l.length + 2 : Nat) : Int), ((l.length + 3 : Nat) : Int), ((l.length + 4 : Nat) : Int), ((l.length + 5 : Nat) : Int), -1, -1, -1, -1, -1, -1, -1, -1, -1, -1, -1, -1, -1, -1, -1, -1, -1, -1, -1, -1, -1, -1, -1, -1, -1]), (13, 2214, []), (13, 1365, []), (13, 1365, []), (13, 516, []), (13, 6192, [])])) dX12_init_46 fX12_26 rfl rfl rfl rfl rfl ?_
  refine aL0 dX12_init_49 ?_
  refine R_sipush dX12_init_50 (by decide) ?_
  refine k_newB (t' := ([(11, 31, [-1, ((l.length + 1 : Nat) : Int), ((l.length + 2 : Nat) : Int), ((l.length + 3 : Nat) : Int), ((l.length + 4 : Nat) : Int), ((l.length + 5 : Nat) : Int), -1, -1, -1, -1, -1, -1, -1, -1, -1, -1, -1, -1, -1, -1, -1, -1, -1, -1, -1, -1, -1, -1, -1, -1, -1]), (13, 2214, []), (13, 1365, []), (13, 1365, []), (13, 516, []), (13, 6192, []), (12, 400, [])])) (N := 400) 6 dX12_init_53 (by decide) h0 rfl rfl ?_
  refine storH (fun h6 e6 => ?_)
  refine k_putR (t' := ([(11, 31, [-1, ((l.length + 1 : Nat) : Int), ((l.length + 2 : Nat) : Int), ((l.length + 3 : Nat) : Int), ((l.length + 4 : Nat) : Int), ((l.length + 5 : Nat) : Int), -1, -1, ((l.length + 6 : Nat) : Int), -1, -1, -1, -1, -1, -1, -1, -1, -1, -1, -1, -1, -1, -1, -1, -1, -1, -1, -1, -1, -1, -1]), (13, 2214, []), (13, 1365, []), (13, 1365, []), (13, 516, []), (13, 6192, []), (12, 400, [])])) dX12_init_55 fX12_29 rfl rfl rfl rfl rfl ?_
  refine aL0 dX12_init_58 ?_
  refine R_iconst_m1 dX12_init_59 ?_
  refine R_putI dX12_init_60 fX12_33 (k_g0 rfl) ?_
  refine storH (fun h7 e7 => ?_)
  refine aL0 dX12_init_63 ?_
  refine R_iconst_5 dX12_init_64 ?_
  refine k_newI (t' := ([(11, 31, [-1, ((l.length + 1 : Nat) : Int), ((l.length + 2 : Nat) : Int), ((l.length + 3 : Nat) : Int), ((l.length + 4 : Nat) : Int), ((l.length + 5 : Nat) : Int), -1, -1, ((l.length + 6 : Nat) : Int), -1, -1, -1, -1, -1, -1, -1, -1, -1, -1, -1, -1, -1, -1, -1, -1, -1, -1, -1, -1, -1, -1]), (13, 2214, []), (13, 1365, []), (13, 1365, []), (13, 516, []), (13, 6192, []), (12, 400, []), (13, 5, [])])) (N := 5) 7 dX12_init_65 (by decide) h0 rfl rfl ?_
  refine storH (fun h8 e8 => ?_)
  refine k_putR (t' := ([(11, 31, [-1, ((l.length + 1 : Nat) : Int), ((l.length + 2 : Nat) : Int), ((l.length + 3 : Nat) : Int), ((l.length + 4 : Nat) : Int), ((l.length + 5 : Nat) : Int), -1, -1, ((l.length + 6 : Nat) : Int), -1, -1, -1, -1, -1, -1, ((l.length + 7 : Nat) : Int), -1, -1, -1, -1, -1, -1, -1, -1, -1, -1, -1, -1, -1, -1, -1]), (13, 2214, []), (13, 1365, []), (13, 1365, []), (13, 516, []), (13, 6192, []), (12, 400, []), (13, 5, [])])) dX12_init_67 fX12_36 rfl rfl rfl rfl rfl ?_
  refine aL0 dX12_init_70 ?_
  refine R_sipush dX12_init_71 (by decide) ?_
  refine k_newI (t' := ([(11, 31, [-1, ((l.length + 1 : Nat) : Int), ((l.length + 2 : Nat) : Int), ((l.length + 3 : Nat) : Int), ((l.length + 4 : Nat) : Int), ((l.length + 5 : Nat) : Int), -1, -1, ((l.length + 6 : Nat) : Int), -1, -1, -1, -1, -1, -1, ((l.length + 7 : Nat) : Int), -1, -1, -1, -1, -1, -1, -1, -1, -1, -1, -1, -1, -1, -1, -1]), (13, 2214, []), (13, 1365, []), (13, 1365, []), (13, 516, []), (13, 6192, []), (12, 400, []), (13, 5, []), (13, 400, [])])) (N := 400) 8 dX12_init_74 (by decide) h0 rfl rfl ?_
  refine storH (fun h9 e9 => ?_)
  refine k_putR (t' := ([(11, 31, [-1, ((l.length + 1 : Nat) : Int), ((l.length + 2 : Nat) : Int), ((l.length + 3 : Nat) : Int), ((l.length + 4 : Nat) : Int), ((l.length + 5 : Nat) : Int), -1, -1, ((l.length + 6 : Nat) : Int), -1, -1, -1, -1, -1, -1, ((l.length + 7 : Nat) : Int), -1, ((l.length + 8 : Nat) : Int), -1, -1, -1, -1, -1, -1, -1, -1, -1, -1, -1, -1, -1]), (13, 2214, []), (13, 1365, []), (13, 1365, []), (13, 516, []), (13, 6192, []), (12, 400, []), (13, 5, []), (13, 400, [])])) dX12_init_76 fX12_39 rfl rfl rfl rfl rfl ?_
  refine aL0 dX12_init_79 ?_
  refine R_iconst_5 dX12_init_80 ?_
  refine k_newI (t' := ([(11, 31, [-1, ((l.length + 1 : Nat) : Int), ((l.length + 2 : Nat) : Int), ((l.length + 3 : Nat) : Int), ((l.length + 4 : Nat) : Int), ((l.length + 5 : Nat) : Int), -1, -1, ((l.length + 6 : Nat) : Int), -1, -1, -1, -1, -1, -1, ((l.length + 7 : Nat) : Int), -1, ((l.length + 8 : Nat) : Int), -1, -1, -1, -1, -1, -1, -1, -1, -1, -1, -1, -1, -1]), (13, 2214, []), (13, 1365, []), (13, 1365, []), (13, 516, []), (13, 6192, []), (12, 400, []), (13, 5, []), (13, 400, []), (13, 5, [])])) (N := 5) 9 dX12_init_81 (by decide) h0 rfl rfl ?_
  refine storH (fun h10 e10 => ?_)
  refine k_putR (t' := ([(11, 31, [-1, ((l.length + 1 : Nat) : Int), ((l.length + 2 : Nat) : Int), ((l.length + 3 : Nat) : Int), ((l.length + 4 : Nat) : Int), ((l.length + 5 : Nat) : Int), -1, -1, ((l.length + 6 : Nat) : Int), -1, -1, -1, -1, -1, -1, ((l.length + 7 : Nat) : Int), -1, ((l.length + 8 : Nat) : Int), -1, -1, -1, ((l.length + 9 : Nat) : Int), -1, -1, -1, -1, -1, -1, -1, -1, -1]), (13, 2214, []), (13, 1365, []), (13, 1365, []), (13, 516, []), (13, 6192, []), (12, 400, []), (13, 5, []), (13, 400, []), (13, 5, [])])) dX12_init_83 fX12_42 rfl rfl rfl rfl rfl ?_
  refine aL0 dX12_init_86 ?_
  refine R_iconst_5 dX12_init_87 ?_
  refine k_newI (t' := ([(11, 31, [-1, ((l.length + 1 : Nat) : Int), ((l.length + 2 : Nat) : Int), ((l.length + 3 : Nat) : Int), ((l.length + 4 : Nat) : Int), ((l.length + 5 : Nat) : Int), -1, -1, ((l.length + 6 : Nat) : Int), -1, -1, -1, -1, -1, -1, ((l.length + 7 : Nat) : Int), -1, ((l.length + 8 : Nat) : Int), -1, -1, -1, ((l.length + 9 : Nat) : Int), -1, -1, -1, -1, -1, -1, -1, -1, -1]), (13, 2214, []), (13, 1365, []), (13, 1365, []), (13, 516, []), (13, 6192, []), (12, 400, []), (13, 5, []), (13, 400, []), (13, 5, []), (13, 5, [])])) (N := 5) 10 dX12_init_88 (by decide) h0 rfl rfl ?_
  refine storH (fun h11 e11 => ?_)
  refine k_putR (t' := ([(11, 31, [-1, ((l.length + 1 : Nat) : Int), ((l.length + 2 : Nat) : Int), ((l.length + 3 : Nat) : Int), ((l.length + 4 : Nat) : Int), ((l.length + 5 : Nat) : Int), -1, -1, ((l.length + 6 : Nat) : Int), -1, -1, -1, -1, -1, -1, ((l.length + 7 : Nat) : Int), -1, ((l.length + 8 : Nat) : Int), -1, -1, -1, ((l.length + 9 : Nat) : Int), ((l.length + 10 : Nat) : Int), -1, -1, -1, -1, -1, -1, -1, -1]), (13, 2214, []), (13, 1365, []), (13, 1365, []), (13, 516, []), (13, 6192, []), (12, 400, []), (13, 5, []), (13, 400, []), (13, 5, []), (13, 5, [])])) dX12_init_90 fX12_45 rfl rfl rfl rfl rfl ?_
  refine aL0 dX12_init_93 ?_
  refine R_bipush dX12_init_94 (by decide) ?_
  refine k_newI (t' := ([(11, 31, [-1, ((l.length + 1 : Nat) : Int), ((l.length + 2 : Nat) : Int), ((l.length + 3 : Nat) : Int), ((l.length + 4 : Nat) : Int), ((l.length + 5 : Nat) : Int), -1, -1, ((l.length + 6 : Nat) : Int), -1, -1, -1, -1, -1, -1, ((l.length + 7 : Nat) : Int), -1, ((l.length + 8 : Nat) : Int), -1, -1, -1, ((l.length + 9 : Nat) : Int), ((l.length + 10 : Nat) : Int), -1, -1, -1, -1, -1, -1, -1, -1]), (13, 2214, []), (13, 1365, []), (13, 1365, []), (13, 516, []), (13, 6192, []), (12, 400, []), (13, 5, []), (13, 400, []), (13, 5, []), (13, 5, []), (13, 60, [])])) (N := 60) 11 dX12_init_96 (by decide) h0 rfl rfl ?_
  refine storH (fun h12 e12 => ?_)
  refine k_putR (t' := ([(11, 31, [-1, ((l.length + 1 : Nat) : Int), ((l.length + 2 : Nat) : Int), ((l.length + 3 : Nat) : Int), ((l.length + 4 : Nat) : Int), ((l.length + 5 : Nat) : Int), -1, -1, ((l.length + 6 : Nat) : Int), -1, -1, -1, -1, -1, -1, ((l.length + 7 : Nat) : Int), -1, ((l.length + 8 : Nat) : Int), -1, -1, -1, ((l.length + 9 : Nat) : Int), ((l.length + 10 : Nat) : Int), ((l.length + 11 : Nat) : Int), -1, -1, -1, -1, -1, -1, -1]), (13, 2214, []), (13, 1365, []), (13, 1365, []), (13, 516, []), (13, 6192, []), (12, 400, []), (13, 5, []), (13, 400, []), (13, 5, []), (13, 5, []), (13, 60, [])])) dX12_init_98 fX12_48 rfl rfl rfl rfl rfl ?_
  refine aL0 dX12_init_101 ?_
  refine R_bipush dX12_init_102 (by decide) ?_
  refine k_newZ (t' := ([(11, 31, [-1, ((l.length + 1 : Nat) : Int), ((l.length + 2 : Nat) : Int), ((l.length + 3 : Nat) : Int), ((l.length + 4 : Nat) : Int), ((l.length + 5 : Nat) : Int), -1, -1, ((l.length + 6 : Nat) : Int), -1, -1, -1, -1, -1, -1, ((l.length + 7 : Nat) : Int), -1, ((l.length + 8 : Nat) : Int), -1, -1, -1, ((l.length + 9 : Nat) : Int), ((l.length + 10 : Nat) : Int), ((l.length + 11 : Nat) : Int), -1, -1, -1, -1, -1, -1, -1]), (13, 2214, []), (13, 1365, []), (13, 1365, []), (13, 516, []), (13, 6192, []), (12, 400, []), (13, 5, []), (13, 400, []), (13, 5, []), (13, 5, []), (13, 60, []), (15, 60, [])])) (N := 60) 12 dX12_init_104 (by decide) h0 rfl rfl ?_
  refine storH (fun h13 e13 => ?_)
  refine k_putR (t' := ([(11, 31, [-1, ((l.length + 1 : Nat) : Int), ((l.length + 2 : Nat) : Int), ((l.length + 3 : Nat) : Int), ((l.length + 4 : Nat) : Int), ((l.length + 5 : Nat) : Int), -1, -1, ((l.length + 6 : Nat) : Int), -1, -1, -1, -1, -1, -1, ((l.length + 7 : Nat) : Int), -1, ((l.length + 8 : Nat) : Int), -1, -1, -1, ((l.length + 9 : Nat) : Int), ((l.length + 10 : Nat) : Int), ((l.length + 11 : Nat) : Int), ((l.length + 12 : Nat) : Int), -1, -1, -1, -1, -1, -1]), (13, 2214, []), (13, 1365, []), (13, 1365, []), (13, 516, []), (13, 6192, []), (12, 400, []), (13, 5, []), (13, 400, []), (13, 5, []), (13, 5, []), (13, 60, []), (15, 60, [])])) dX12_init_106 fX12_51 rfl rfl rfl rfl rfl ?_
  refine aL0 dX12_init_109 ?_
  refine R_sipush dX12_init_110 (by decide) ?_
  refine k_newZ (t' := ([(11, 31, [-1, ((l.length + 1 : Nat) : Int), ((l.length + 2 : Nat) : Int), ((l.length + 3 : Nat) : Int), ((l.length + 4 : Nat) : Int), ((l.length + 5 : Nat) : Int), -1, -1, ((l.length + 6 : Nat) : Int), -1, -1, -1, -1, -1, -1, ((l.length + 7 : Nat) : Int), -1, ((l.length + 8 : Nat) : Int), -1, -1, -1, ((l.length + 9 : Nat) : Int), ((l.length + 10 : Nat) : Int), ((l.length + 11 : Nat) : Int), ((l.length + 12 : Nat) : Int), -1, -1, -1, -1, -1, -1]), (13, 2214, []), (13, 1365, []), (13, 1365, []), (13, 516, []), (13, 6192, []), (12, 400, []), (13, 5, []), (13, 400, []), (13, 5, []), (13, 5, []), (13, 60, []), (15, 60, []), (15, 480, [])])) (N := 480) 13 dX12_init_113 (by decide) h0 rfl rfl ?_
  refine storH (fun h14 e14 => ?_)
  refine k_putR (t' := ([(11, 31, [-1, ((l.length + 1 : Nat) : Int), ((l.length + 2 : Nat) : Int), ((l.length + 3 : Nat) : Int), ((l.length + 4 : Nat) : Int), ((l.length + 5 : Nat) : Int), -1, -1, ((l.length + 6 : Nat) : Int), -1, -1, -1, -1, -1, -1, ((l.length + 7 : Nat) : Int), -1, ((l.length + 8 : Nat) : Int), -1, -1, -1, ((l.length + 9 : Nat) : Int), ((l.length + 10 : Nat) : Int), ((l.length + 11 : Nat) : Int), ((l.length + 12 : Nat) : Int), ((l.length + 13 : Nat) : Int), -1, -1, -1, -1, -1]), (13, 2214, []), (13, 1365, []), (13, 1365, []), (13, 516, []), (13, 6192, []), (12, 400, []), (13, 5, []), (13, 400, []), (13, 5, []), (13, 5, []), (13, 60, []), (15, 60, []), (15, 480, [])])) dX12_init_115 fX12_55 rfl rfl rfl rfl rfl ?_
  refine aL0 dX12_init_118 ?_
  refine R_bipush dX12_init_119 (by decide) ?_
  refine k_newI (t' := ([(11, 31, [-1, ((l.length + 1 : Nat) : Int), ((l.length + 2 : Nat) : Int), ((l.length + 3 : Nat) : Int), ((l.length + 4 : Nat) : Int), ((l.length + 5 : Nat) : Int), -1, -1, ((l.length + 6 : Nat) : Int), -1, -1, -1, -1, -1, -1, ((l.length + 7 : Nat) : Int), -1, ((l.length + 8 : Nat) : Int), -1, -1, -1, ((l.length + 9 : Nat) : Int), ((l.length + 10 : Nat) : Int), ((l.length + 11 : Nat) : Int), ((l.length + 12 : Nat) : Int), ((l.length + 13 : Nat) : Int), -1, -1, -1, -1, -1]), (13, 2214, []), (13, 1365, []), (13, 1365, []), (13, 516, []), (13, 6192, []), (12, 400, []), (13, 5, []), (13, 400, []), (13, 5, []), (13, 5, []), (13, 60, []), (15, 60, []), (15, 480, []), (13, 60, [])])) (N := 60) 14 dX12_init_121 (by decide) h0 rfl rfl ?_
  refine storH (fun h15 e15 => ?_)
  refine k_putR (t' := ([(11, 31, [-1, ((l.length + 1 : Nat) : Int), ((l.length + 2 : Nat) : Int), ((l.length + 3 : Nat) : Int), ((l.length + 4 : Nat) : Int), ((l.length + 5 : Nat) : Int), -1, -1, ((l.length + 6 : Nat) : Int), -1, -1, -1, -1, -1, -1, ((l.length + 7 : Nat) : Int), -1, ((l.length + 8 : Nat) : Int), -1, -1, -1, ((l.length + 9 : Nat) : Int), ((l.length + 10 : Nat) : Int), ((l.length + 11 : Nat) : Int), ((l.length + 12 : Nat) : Int), ((l.length + 13 : Nat) : Int), ((l.length + 14 : Nat) : Int), -1, -1, -1, -1]), (13, 2214, []), (13, 1365, []), (13, 1365, []), (13, 516, []), (13, 6192, []), (12, 400, []), (13, 5, []), (13, 400, []), (13, 5, []), (13, 5, []), (13, 60, []), (15, 60, []), (15, 480, []), (13, 60, [])])) dX12_init_123 fX12_58 rfl rfl rfl rfl rfl ?_
  refine aL0 dX12_init_126 ?_
  refine R_bipush dX12_init_127 (by decide) ?_
  refine k_newI (t' := ([(11, 31, [-1, ((l.length + 1 : Nat) : Int), ((l.length + 2 : Nat) : Int), ((l.length + 3 : Nat) : Int), ((l.length + 4 : Nat) : Int), ((l.length + 5 : Nat) : Int), -1, -1, ((l.length + 6 : Nat) : Int), -1, -1, -1, -1, -1, -1, ((l.length + 7 : Nat) : Int), -1, ((l.length + 8 : Nat) : Int), -1, -1, -1, ((l.length + 9 : Nat) : Int), ((l.length + 10 : Nat) : Int), ((l.length + 11 : Nat) : Int), ((l.length + 12 : Nat) : Int), ((l.length + 13 : Nat) : Int), ((l.length + 14 : Nat) : Int), -1, -1, -1, -1]), (13, 2214, []), (13, 1365, []), (13, 1365, []), (13, 516, []), (13, 6192, []), (12, 400, []), (13, 5, []), (13, 400, []), (13, 5, []), (13, 5, []), (13, 60, []), (15, 60, []), (15, 480, []), (13, 60, []), (13, 60, [])])) (N := 60) 15 dX12_init_129 (by decide) h0 rfl rfl ?_
  refine storH (fun h16 e16 => ?_)
  refine k_putR (t' := ([(11, 31, [-1, ((l.length + 1 : Nat) : Int), ((l.length + 2 : Nat) : Int), ((l.length + 3 : Nat) : Int), ((l.length + 4 : Nat) : Int), ((l.length + 5 : Nat) : Int), -1, -1, ((l.length + 6 : Nat) : Int), -1, -1, -1, -1, -1, -1, ((l.length + 7 : Nat) : Int), -1, ((l.length + 8 : Nat) : Int), -1, -1, -1, ((l.length + 9 : Nat) : Int), ((l.length + 10 : Nat) : Int), ((l.length + 11 : Nat) : Int), ((l.length + 12 : Nat) : Int), ((l.length + 13 : Nat) : Int), ((l.length + 14 : Nat) : Int), ((l.length + 15 : Nat) : Int), -1, -1, -1]), (13, 2214, []), (13, 1365, []), (13, 1365, []), (13, 516, []), (13, 6192, []), (12, 400, []), (13, 5, []), (13, 400, []), (13, 5, []), (13, 5, []), (13, 60, []), (15, 60, []), (15, 480, []), (13, 60, []), (13, 60, [])])) dX12_init_131 fX12_61 rfl rfl rfl rfl rfl ?_
  refine aL0 dX12_init_134 ?_
  refine R_iconst_5 dX12_init_135 ?_
  refine k_newI (t' := ([(11, 31, [-1, ((l.length + 1 : Nat) : Int), ((l.length + 2 : Nat) : Int), ((l.length + 3 : Nat) : Int), ((l.length + 4 : Nat) : Int), ((l.length + 5 : Nat) : Int), -1, -1, ((l.length + 6 : Nat) : Int), -1, -1, -1, -1, -1, -1, ((l.length + 7 : Nat) : Int), -1, ((l.length + 8 : Nat) : Int), -1, -1, -1, ((l.length + 9 : Nat) : Int), ((l.length + 10 : Nat) : Int), ((l.length + 11 : Nat) : Int), ((l.length + 12 : Nat) : Int), ((l.length + 13 : Nat) : Int), ((l.length + 14 : Nat) : Int), ((l.length + 15 : Nat) : Int), -1, -1, -1]), (13, 2214, []), (13, 1365, []), (13, 1365, []), (13, 516, []), (13, 6192, []), (12, 400, []), (13, 5, []), (13, 400, []), (13, 5, []), (13, 5, []), (13, 60, []), (15, 60, []), (15, 480, []), (13, 60, []), (13, 60, []), (13, 5, [])])) (N := 5) 16 dX12_init_136 (by decide) h0 rfl rfl ?_
  refine storH (fun h17 e17 => ?_)
  refine k_putR (t' := ([(11, 31, [-1, ((l.length + 1 : Nat) : Int), ((l.length + 2 : Nat) : Int), ((l.length + 3 : Nat) : Int), ((l.length + 4 : Nat) : Int), ((l.length + 5 : Nat) : Int), -1, -1, ((l.length + 6 : Nat) : Int), -1, -1, -1, -1, -1, -1, ((l.length + 7 : Nat) : Int), -1, ((l.length + 8 : Nat) : Int), -1, -1, -1, ((l.length + 9 : Nat) : Int), ((l.length + 10 : Nat) : Int), ((l.length + 11 : Nat) : Int), ((l.length + 12 : Nat) : Int), ((l.length + 13 : Nat) : Int), ((l.length + 14 : Nat) : Int), ((l.length + 15 : Nat) : Int), ((l.length + 16 : Nat) : Int), -1, -1]), (13, 2214, []), (13, 1365, []), (13, 1365, []), (13, 516, []), (13, 6192, []), (12, 400, []), (13, 5, []), (13, 400, []), (13, 5, []), (13, 5, []), (13, 60, []), (15, 60, []), (15, 480, []), (13, 60, []), (13, 60, []), (13, 5, [])])) dX12_init_138 fX12_64 rfl rfl rfl rfl rfl ?_
  refine aL0 dX12_init_141 ?_
  refine R_iconst_5 dX12_init_142 ?_
  refine k_newI (t' := ([(11, 31, [-1, ((l.length + 1 : Nat) : Int), ((l.length + 2 : Nat) : Int), ((l.length + 3 : Nat) : Int), ((l.length + 4 : Nat) : Int), ((l.length + 5 : Nat) : Int), -1, -1, ((l.length + 6 : Nat) : Int), -1, -1, -1, -1, -1, -1, ((l.length + 7 : Nat) : Int), -1, ((l.length + 8 : Nat) : Int), -1, -1, -1, ((l.length + 9 : Nat) : Int), ((l.length + 10 : Nat) : Int), ((l.length + 11 : Nat) : Int), ((l.length + 12 : Nat) : Int), ((l.length + 13 : Nat) : Int), ((l.length + 14 : Nat) : Int), ((l.length + 15 : Nat) : Int), ((l.length + 16 : Nat) : Int), -1, -1]), (13, 2214, []), (13, 1365, []), (13, 1365, []), (13, 516, []), (13, 6192, []), (12, 400, []), (13, 5, []), (13, 400, []), (13, 5, []), (13, 5, []), (13, 60, []), (15, 60, []), (15, 480, []), (13, 60, []), (13, 60, []), (13, 5, []), (13, 5, [])])) (N := 5) 17 dX12_init_143 (by decide) h0 rfl rfl ?_
  refine storH (fun h18 e18 => ?_)
  refine k_putR (t' := ([(11, 31, [-1, ((l.length + 1 : Nat) : Int), ((l.length + 2 : Nat) : Int), ((l.length + 3 : Nat) : Int), ((l.length + 4 : Nat) : Int), ((l.length + 5 : Nat) : Int), -1, -1, ((l.length + 6 : Nat) : Int), -1, -1, -1, -1, -1, -1, ((l.length + 7 : Nat) : Int), -1, ((l.length + 8 : Nat) : Int), -1, -1, -1, ((l.length + 9 : Nat) : Int), ((l.length + 10 : Nat) : Int), ((l.length + 11 : Nat) : Int), ((l.length + 12 : Nat) : Int), ((l.length + 13 : Nat) : Int), ((l.length + 14 : Nat) : Int), ((l.length + 15 : Nat) : Int), ((l.length + 16 : Nat) : Int), ((l.length + 17 : Nat) : Int), -1]), (13, 2214, []), (13, 1365, []), (13, 1365, []), (13, 516, []), (13, 6192, []), (12, 400, []), (13, 5, []), (13, 400, []), (13, 5, []), (13, 5, []), (13, 60, []), (15, 60, []), (15, 480, []), (13, 60, []), (13, 60, []), (13, 5, []), (13, 5, [])])) dX12_init_145 fX12_67 rfl rfl rfl rfl rfl ?_
  refine aL0 dX12_init_148 ?_
  refine R_bipush dX12_init_149 (by decide) ?_
  refine k_newI (t' := ([(11, 31, [-1, ((l.length + 1 : Nat) : Int), ((l.length + 2 : Nat) : Int), ((l.length + 3 : Nat) : Int), ((l.length + 4 : Nat) : Int), ((l.length + 5 : Nat) : Int), -1, -1, ((l.length + 6 : Nat) : Int), -1, -1, -1, -1, -1, -1, ((l.length + 7 : Nat) : Int), -1, ((l.length + 8 : Nat) : Int), -1, -1, -1, ((l.length + 9 : Nat) : Int), ((l.length + 10 : Nat) : Int), ((l.length + 11 : Nat) : Int), ((l.length + 12 : Nat) : Int), ((l.length + 13 : Nat) : Int), ((l.length + 14 : Nat) : Int), ((l.length + 15 : Nat) : Int), ((l.length + 16 : Nat) : Int), ((l.length + 17 : Nat) : Int), -1]), (13, 2214, []), (13, 1365, []), (13, 1365, []), (13, 516, []), (13, 6192, []), (12, 400, []), (13, 5, []), (13, 400, []), (13, 5, []), (13, 5, []), (13, 60, []), (15, 60, []), (15, 480, []), (13, 60, []), (13, 60, []), (13, 5, []), (13, 5, []), (13, 32, [])])) (N := 32) 18 dX12_init_151 (by decide) h0 rfl rfl ?_
  refine storH (fun h19 e19 => ?_)
  refine k_putR (t' := ([(11, 31, [-1, ((l.length + 1 : Nat) : Int), ((l.length + 2 : Nat) : Int), ((l.length + 3 : Nat) : Int), ((l.length + 4 : Nat) : Int), ((l.length + 5 : Nat) : Int), -1, -1, ((l.length + 6 : Nat) : Int), -1, -1, -1, -1, -1, -1, ((l.length + 7 : Nat) : Int), -1, ((l.length + 8 : Nat) : Int), -1, -1, -1, ((l.length + 9 : Nat) : Int), ((l.length + 10 : Nat) : Int), ((l.length + 11 : Nat) : Int), ((l.length + 12 : Nat) : Int), ((l.length + 13 : Nat) : Int), ((l.length + 14 : Nat) : Int), ((l.length + 15 : Nat) : Int), ((l.length + 16 : Nat) : Int), ((l.length + 17 : Nat) : Int), ((l.length + 18 : Nat) : Int)]), (13, 2214, []), (13, 1365, []), (13, 1365, []), (13, 516, []), (13, 6192, []), (12, 400, []), (13, 5, []), (13, 400, []), (13, 5, []), (13, 5, []), (13, 60, []), (15, 60, []), (15, 480, []), (13, 60, []), (13, 60, []), (13, 5, []), (13, 5, []), (13, 32, [])])) dX12_init_153 fX12_70 rfl rfl rfl rfl rfl ?_
  refine aL0 dX12_init_156 ?_
  refine R_getR (b := (l.length + 1)) dX12_init_157 fX12_13.r (k_g0 rfl) rfl ?_
  refine R_bipush dX12_init_160 (by decide) ?_
  refine R_iconst_1 dX12_init_162 ?_
  refine iastN (k := 7) dX12_init_163 (k_g (j := 1) rfl) rfl (by decide) ?_
  refine storH (fun h20 e20 => ?_)
  refine R_iconst_0 dX12_init_164 ?_
  refine iS1 dX12_init_165 ?_
  have hb : ∀ i, h20 (l.length + 1) i = if i = 7 then 1 else if 20 ≤ i ∧ i < 20 + 0 then -1 else 0 := fun i => by
    by_cases g7 : i = 7
    · rw [if_pos g7, g7, e20, updH_s]
    · rw [if_neg g7, if_neg (by omega), e20, updH_i g7, e19, newH_a (by omega), e18, newH_a (by omega), e17, newH_a (by omega), e16, newH_a (by omega), e15, newH_a (by omega), e14, newH_a (by omega), e13, newH_a (by omega), e12, newH_a (by omega), e11, newH_a (by omega), e10, newH_a (by omega), e9, newH_a (by omega), e8, newH_a (by omega), e7, updH_a (by omega), e6, newH_a (by omega), e5, newH_a (by omega), e4, newH_a (by omega), e3, newH_a (by omega), e2, newH_a (by omega), e1, newH_s]
  refine loopN 60 (fun q => ∀ hh : Hc, (∀ a, a ≠ l.length + 1 → hh a = h20 a) → (∀ i, hh (l.length + 1) i = if i = 7 then 1 else if 20 ≤ i ∧ i < 20 + q then -1 else 0) → Run (d + 0) 0 0 mX12_init 166 [vR l.length, vI ((q : Nat) : Int)] [] (l ++ ([(11, 31, [-1, ((l.length + 1 : Nat) : Int), ((l.length + 2 : Nat) : Int), ((l.length + 3 : Nat) : Int), ((l.length + 4 : Nat) : Int), ((l.length + 5 : Nat) : Int), -1, -1, ((l.length + 6 : Nat) : Int), -1, -1, -1, -1, -1, -1, ((l.length + 7 : Nat) : Int), -1, ((l.length + 8 : Nat) : Int), -1, -1, -1, ((l.length + 9 : Nat) : Int), ((l.length + 10 : Nat) : Int), ((l.length + 11 : Nat) : Int), ((l.length + 12 : Nat) : Int), ((l.length + 13 : Nat) : Int), ((l.length + 14 : Nat) : Int), ((l.length + 15 : Nat) : Int), ((l.length + 16 : Nat) : Int), ((l.length + 17 : Nat) : Int), ((l.length + 18 : Nat) : Int)]), (13, 2214, []), (13, 1365, []), (13, 1365, []), (13, 516, []), (13, 6192, []), (12, 400, []), (13, 5, []), (13, 400, []), (13, 5, []), (13, 5, []), (13, 60, []), (15, 60, []), (15, 480, []), (13, 60, []), (13, 60, []), (13, 5, []), (13, 5, []), (13, 32, [])]), gg) hh P) (fun q hcq ihq hh ho hw => ?_) 0 (Nat.zero_le _) h20 (fun _ _ => rfl) hb
  refine iL1 dX12_init_166 ?_
  refine R_bipush dX12_init_167 (by decide) ?_
  refine R_icmp_ge dX12_init_169 (fun hb => ?_) (fun hb => ?_)
  rotate_left
  · refine aL0 dX12_init_172 ?_
    refine R_getR (b := (l.length + 1)) dX12_init_173 fX12_13.r (k_g0 rfl) rfl ?_
    refine R_bipush dX12_init_176 (by decide) ?_
    refine iL1 dX12_init_178 ?_
    refine addV dX12_init_179 (v := (((20 + q) : Nat) : Int)) (by rw [wid (by omega) (by omega)]; omega) ?_
    refine R_iconst_m1 dX12_init_180 ?_
    refine iastN (k := 20 + q) dX12_init_181 (k_g (j := 1) rfl) rfl (by omega) ?_
    refine iInc1 dX12_init_182 (winc (by omega)) ?_
    refine R_goto dX12_init_185 ?_
    refine ihq (by omega) _ (fun a ha => by rw [updH_a ha]; exact ho a ha) (fun i => ?_)
    by_cases g8 : i = 20 + q
    · rw [g8, updH_s, if_neg (by omega), if_pos (by omega)]
    · rw [updH_i g8, hw i]
      by_cases g7 : i = 7
      · rw [if_pos g7, if_pos g7]
      · rw [if_neg g7, if_neg g7]
        by_cases g6 : 20 ≤ i ∧ i < 20 + q
        · rw [if_pos g6, if_pos (by omega)]
        · rw [if_neg g6, if_neg (by omega)]
  have hq : q = 60 := by omega
  subst hq
  exact R_vret dX12_init_188 rfl (K _ (fun q hq => by rw [ho _ (by omega), e20, updH_a (by omega), e19, newH_a (by omega), e18, newH_a (by omega), e17, newH_a (by omega), e16, newH_a (by omega), e15, newH_a (by omega), e14, newH_a (by omega), e13, newH_a (by omega), e12, newH_a (by omega), e11, newH_a (by omega), e10, newH_a (by omega), e9, newH_a (by omega), e8, newH_a (by omega), e7, updH_a (by omega), e6, newH_a (by omega), e5, newH_a (by omega), e4, newH_a (by omega), e3, newH_a (by omega), e2, newH_a (by omega), e1, newH_a (by omega)]) (⟨by show hh (l.length + 1) = w0; funext i; rw [hw i]; rfl, by show hh l.length 6 = _; rw [ho _ (by omega), e20, updH_a (by omega), e19, newH_a (by omega), e18, newH_a (by omega), e17, newH_a (by omega), e16, newH_a (by omega), e15, newH_a (by omega), e14, newH_a (by omega), e13, newH_a (by omega), e12, newH_a (by omega), e11, newH_a (by omega), e10, newH_a (by omega), e9, newH_a (by omega), e8, newH_a (by omega), e7, updH_i (by omega), e6, newH_a (by omega), e5, newH_a (by omega), e4, newH_a (by omega), e3, newH_a (by omega), e2, newH_a (by omega), e1, newH_a (by omega)]; exact congrFun hz 6, by show hh l.length 7 = _; rw [ho _ (by omega), e20, updH_a (by omega), e19, newH_a (by omega), e18, newH_a (by omega), e17, newH_a (by omega), e16, newH_a (by omega), e15, newH_a (by omega), e14, newH_a (by omega), e13, newH_a (by omega), e12, newH_a (by omega), e11, newH_a (by omega), e10, newH_a (by omega), e9, newH_a (by omega), e8, newH_a (by omega), e7, updH_i (by omega), e6, newH_a (by omega), e5, newH_a (by omega), e4, newH_a (by omega), e3, newH_a (by omega), e2, newH_a (by omega), e1, newH_a (by omega)]; exact congrFun hz 7, by show hh l.length 9 = _; rw [ho _ (by omega), e20, updH_a (by omega), e19, newH_a (by omega), e18, newH_a (by omega), e17, newH_a (by omega), e16, newH_a (by omega), e15, newH_a (by omega), e14, newH_a (by omega), e13, newH_a (by omega), e12, newH_a (by omega), e11, newH_a (by omega), e10, newH_a (by omega), e9, newH_a (by omega), e8, newH_a (by omega), e7, updH_i (by omega), e6, newH_a (by omega), e5, newH_a (by omega), e4, newH_a (by omega), e3, newH_a (by omega), e2, newH_a (by omega), e1, newH_a (by omega)]; exact congrFun hz 9, by show hh l.length 14 = _; rw [ho _ (by omega), e20, updH_a (by omega), e19, newH_a (by omega), e18, newH_a (by omega), e17, newH_a (by omega), e16, newH_a (by omega), e15, newH_a (by omega), e14, newH_a (by omega), e13, newH_a (by omega), e12, newH_a (by omega), e11, newH_a (by omega), e10, newH_a (by omega), e9, newH_a (by omega), e8, newH_a (by omega), e7, updH_s]⟩))
theorem k_putRj {d kc ks : Nat} {y : Mth} {pc n idx : Nat} {ls st : List AV} {l t : List Sh} {gg : Nat × (Nat × (Nat → Int))} {h : Hc} {P : Po} {j ci k N b : Nat} {rs : List Int} {ty : FieldType} (hd : D y pc (.putfield idx) 3 n) (hf : FPW (mC y) idx ci k N true ty true) (hty : ty.isReference = true) (hin : (mN y).name = "<init>") (hg : t[j]? = some (ci, N, rs)) (hrs : rs.length = N) (K : Run d kc ks y n ls st (l ++ t.set j (ci, N, rs.set k (b : Int)), gg) h P) : Run d kc ks y pc ls (vR b :: vR (l.length + j) :: st) (l ++ t, gg) h P := by
  refine R_putR hd hf hty hin (k_g hg) hrs ?_
  show Run d kc ks y n ls st ((l ++ t).set (l.length + j) (ci, N, rs.set k (b : Int)), gg) h P
  rw [k_set]
  exact K
theorem C_X7_more {d : Nat} {l t t' : List Sh} {gg : Nat × (Nat × (Nat → Int))} {h : Hc} {P : Po} {j tw ct : Nat} (n9 : Nat) (hj : t[j]? = some (7, 3, [-1, -1, -1])) (e9 : t.length = n9) (h0 : gg.1 = 0) (et : (t ++ [(13, 5, [])]).set j (7, 3, [(tw : Int), (ct : Int), ((l.length + n9 : Nat) : Int)]) = t') (K : ∀ h', (∀ q, q < l.length + n9 → h' q = h q) → P (.inl none) (l ++ t', gg) h') : Call (d + 0) 1 5 mX7_init [vR (l.length + j), vR tw, vR ct] (l ++ t, gg) h P := by
  have hjl : j < t.length := (List.getElem?_eq_some_iff.mp hj).1
  have hj2 : (t ++ [(13, 5, [])])[j]? = some (7, 3, [-1, -1, -1]) := by rw [List.getElem?_append_left hjl]; exact hj
  have hjl2 : j < (t ++ [((13, 5, []) : Sh)]).length := by rw [List.length_append]; omega
  refine Call_of rfl ⟨by decide +kernel, rfl⟩ (Nat.le_of_ble_eq_true rfl) rfl ?_
  refine aL0 dX7_init_0 ?_
  refine R_objInit dX7_init_1 kX7_3 lb_obj (Nat.le_of_ble_eq_true rfl) ?_
  refine aL0 dX7_init_4 ?_
  refine R_iconst_5 dX7_init_5 ?_
  refine k_newI (N := 5) n9 dX7_init_6 (by decide) h0 e9 rfl ?_
  refine k_putRj dX7_init_8 fX7_9 rfl rfl hj2 rfl ?_
  refine aL0 dX7_init_11 ?_
  refine aL1 dX7_init_12 ?_
  refine k_putRj dX7_init_13 fX7_15 rfl rfl (List.getElem?_set_self hjl2) rfl ?_
  refine aL0 dX7_init_16 ?_
  refine aL2 dX7_init_17 ?_
  refine k_putRj dX7_init_18 fX7_19 rfl rfl (List.getElem?_set_self (by rw [List.length_set]; exact hjl2)) rfl ?_
  refine R_vret dX7_init_21 rfl ?_
  rw [List.set_set, List.set_set]
  have e : (t ++ [(13, 5, [])]).set j (7, 3, [(tw : Int), (ct : Int), ((l.length + n9 : Nat) : Int)]) = t' := et
  show P (.inl none) (l ++ (t ++ [(13, 5, [])]).set j (7, 3, [(tw : Int), (ct : Int), ((l.length + n9 : Nat) : Int)]), gg) (newH h (l.length + n9))
  rw [e]
  exact K _ (fun q hq => newH_a (by omega))
theorem Tw.eq {h h' : Hc} {t : Nat} {w : Nat → Int} (q : Tw h t w) (e : ∀ i, i < 16 → h' (t + i) = h (t + i)) : Tw h' t w := q.off (S := fun a => ¬ (t ≤ a ∧ a < t + 16)) (fun a ha => by
  have h1 : t ≤ a ∧ a < t + 16 := Decidable.byContradiction ha
  have := e (a - t) (by omega)
  rwa [show t + (a - t) = a by omega] at this) (fun i hi hn => hn ⟨by omega, by omega⟩)
