set_option maxHeartbeats 4000000 in
theorem R_invIx {d kc ks mc ms : Nat} {y yc : Mth} {pc n k idx : Nat} {ls st av : List AV} {g : Gs} {h : Hc} {P : Po} {a : Nat} (hh : mH y = []) (hd : D y pc (.invokespecial idx) 3 n) (hm : MI (mC y) idx yc k) (hk : av.length = k) (hst : st.length ≤ 8) (hn2 : no2 st = true) (hkc : mc ≤ kc) (hks : ms ≤ ks) (K : Call d mc ms yc (vR a :: av) g h (Kon (d + 1) (kc - mc) (ks - ms) y n ls st g mc P)) : Run (d + 1) kc ks y pc ls (av.reverse ++ vR a :: st) g h P := by
  intro z p l e R s m args below meth c H locs cells slots rls C hc hs hR hE hS hL ho1 ho2
  obtain ⟨hd, hn⟩ := hd
  obtain ⟨f3, f4, f5, f6, f7⟩ := hm
  intro T9 hT X
  have hX := hR.x hE hS C.base hT X
  have hav : okV (vR a :: av) := okV_cons (okA_R _) (okV_rev (okV_app ho2).1)
  have cb := callBO (mc := mc) (ms := ms) C f4 f3
  have K9 := K z l C.rest.1 hav
  rw [f7] at cb K9
  have run := vx_runI (As := av.map (enc z)) (rest := st.map (enc z)) (b := zb z + a) (g := F0 m pc rls ((av.reverse ++ vR a :: st).map (enc z))) (e := e) (below := below) (meth := meth) (H := H) (locs := locs) (cells := cells) (slots := slots) ⟨C.1, C.2.1, C.2.2.1, C.own, C.hts⟩ K9 ⟨cb, f6, C.hts _ f5⟩ ⟨PcO.blind, by rw [args_eq]; exact PcO.at C hX hS⟩ rfl (by rw [List.length_map]; exact hk) hL.2.1.1 (stk_eq z av a st) (enc_cats8 hst hn2) hd ⟨by omega, by omega⟩
  exact inv_go hh hn hkc hks C hc hs hE hS hL ho1 (okV_tl (okV_app ho2).2) run T9 hT X
theorem invI2x {d kc ks mc ms : Nat} {y yc : Mth} {pc n idx : Nat} {ls st : List AV} {g : Gs} {h : Hc} {P : Po} {x : Nat} {b1 b2 : AV} (hh : mH y = []) (hd : D y pc (.invokespecial idx) 3 n) (hm : MI (mC y) idx yc 2) (hst : st.length ≤ 8) (hn2 : no2 st = true) (hkc : mc ≤ kc) (hks : ms ≤ ks) (K : Call d mc ms yc [vR x, b1, b2] g h (Kon (d + 1) (kc - mc) (ks - ms) y n ls st g mc P)) : Run (d + 1) kc ks y pc ls (b2 :: b1 :: vR x :: st) g h P := R_invIx (av := [b1, b2]) hh hd hm rfl hst hn2 hkc hks K
theorem k_inH {d kc ks mc ms n9 : Nat} {y yc : Mth} {n : Nat} {ls st : List AV} {l : List Sh} {gg : Nat × (Nat × (Nat → Int))} {h : Hc} {P : Po} {m : Sh} {S S' : List Sh} {obj : Sh} {G : Nat → List Sh} {F : Nat → Hc → Prop} {av : List AV} {kc' ks' : Nat} (hI : Ini d mc ms yc obj G F av) (hG : ∀ a, (G a).length = mc + 1) (h0 : gg.1 = 0) (e9 : S.length + 1 = n9) (hz : h (l.length + n9) = fun _ => 0) (e1 : kc = kc' + mc) (e2 : ks = ks' + ms) (hS : S' = S ++ G (l.length + n9)) (K : ∀ h', (∀ q, q < l.length + n9 → h' q = h q) → F (l.length + n9) h' → Run (d + 1) kc' ks' y n ls st (l ++ (m :: S'), gg) h' P) : Call d mc ms yc (vR (l.length + n9) :: av) (l ++ (m :: (S ++ [obj])), gg) h (Kon (d + 1) (kc - mc) (ks - ms) y n ls st (l ++ (m :: (S ++ [obj])), gg) mc P) := by
  subst hS
  exact k_ini (t := m :: S) hI hG h0 (by rw [List.length_cons]; exact e9) hz e1 e2 K
theorem g_mid {m x : Sh} {S C : List Sh} {n : Nat} (hS : S.length = n) : (m :: ((S ++ [x]) ++ C))[n + 1]? = some x := by
  rw [List.getElem?_cons_succ, List.append_assoc, List.getElem?_append_right (by omega), show n - S.length = 0 by omega]
  rfl
theorem s_mid {m x y c : Sh} {S C : List Sh} {n : Nat} (hS : S.length = n) : ((m :: ((S ++ [x]) ++ C)) ++ [c]).set (n + 1) y = m :: (((S ++ [y]) ++ C) ++ [c]) := by
  rw [List.cons_append, List.set_cons_succ, List.append_assoc, List.append_assoc, List.set_append_right _ _ (by omega), show n - S.length = 0 by omega, List.append_assoc, List.append_assoc]
  rfl
def clsG (a : Nat) : List Sh := (10, 16, [((a + 1 : Nat) : Int), ((a + 5 : Nat) : Int), ((a + 21 : Nat) : Int), ((a + 37 : Nat) : Int), ((a + 53 : Nat) : Int), ((a + 59 : Nat) : Int), ((a + 65 : Nat) : Int), ((a + 71 : Nat) : Int), ((a + 72 : Nat) : Int), ((a + 73 : Nat) : Int), ((a + 75 : Nat) : Int), ((a + 77 : Nat) : Int), ((a + 81 : Nat) : Int), ((a + 87 : Nat) : Int), -1, -1]) :: ((((((((((((((((([] : List Sh) ++ tapG (a + 1)) ++ townG (a + 5)) ++ townG (a + 21)) ++ townG (a + 37)) ++ lawG (a + 53)) ++ lawG (a + 59)) ++ lawG (a + 65)) ++ aszG (a + 1) (a + 21) (a + 71)) ++ lwtG (a + 1) (a + 59) (a + 72)) ++ crtG (a + 5) (a + 53) (a + 73)) ++ sitG (a + 5) (a + 73) (a + 75)) ++ [(7, 3, [((a + 21 : Nat) : Int), ((a + 78 : Nat) : Int), ((a + 80 : Nat) : Int)])]) ++ crtG (a + 21) (a + 53) (a + 78)) ++ [(13, 5, [])]) ++ mtcG (a + 5) (a + 73) (a + 81)) ++ pasG (a + 87))
set_option maxHeartbeats 4000000 in
theorem I_X11_init {d : Nat} : Ini (d + 3) 280 10697 mX11_init (10, 16, List.replicate 16 (-1)) clsG (fun a h => h (a + 1) 3 = 0 ∧ Tw h (a + 5) w0 ∧ h (a + 53) 0 = -1 ∧ h (a + 71) 1 = 14 ∧ h (a + 72) 1 = 12 ∧ (h (a + 87) 1 = 0 ∧ h (a + 87) 2 = 0) ∧ h a 14 = 0 ∧ h a 15 = -1) [] := by
  intro l gg h P h0 hz K
  refine Call_of rfl ⟨by decide +kernel, rfl⟩ (Nat.le_of_ble_eq_true rfl) rfl ?_
  show Run (d + 3) 280 10697 mX11_init 0 [vR l.length] [] (l ++ ((10, 16, List.replicate 16 (-1)) :: ([] : List Sh)), gg) h P
  refine aL0 dX11_init_0 ?_
  refine R_objInit dX11_init_1 kX11_3 lb_obj (by decide) ?_
  refine aL0 dX11_init_4 ?_
  refine k_new (t' := ((10, 16, [-1, -1, -1, -1, -1, -1, -1, -1, -1, -1, -1, -1, -1, -1, -1, -1]) :: (([] : List Sh) ++ [(8, 6, [-1, -1, -1, -1, -1, -1])]))) 1 dX11_init_5 wX11_9 h0 (by rw [List.length_cons]; rfl) rfl ?_
  refine storH (fun h1 e1 => ?_)
  refine dupR dX11_init_8 ?_
  obtain ⟨S1, hS1⟩ : ∃ S : List Sh, S = ([] : List Sh) ++ tapG (l.length + 1) := ⟨_, rfl⟩
  have nS1 : S1.length = 4 := by rw [hS1, List.length_append]; rfl
  refine invN0 rfl dX11_init_9 kX11_11 (Nat.le_of_ble_eq_true rfl) (by decide) (by decide) (k_inH (n9 := 1) (kc' := 276) (ks' := 9489) (I_X8_init) (fun _ => rfl) h0 rfl (by rw [e1]; exact newH_s _ _) rfl rfl hS1 (fun h2 q2 f2 => ?_))
  refine k_putR (t' := ((10, 16, [((l.length + 1 : Nat) : Int), -1, -1, -1, -1, -1, -1, -1, -1, -1, -1, -1, -1, -1, -1, -1]) :: S1)) dX11_init_12 fX11_12 rfl rfl rfl rfl rfl ?_
  refine aL0 dX11_init_15 ?_
  refine k_new (t' := ((10, 16, [((l.length + 1 : Nat) : Int), -1, -1, -1, -1, -1, -1, -1, -1, -1, -1, -1, -1, -1, -1, -1]) :: (S1 ++ [(9, 20, [-1, -1, -1, -1, -1, -1, -1, -1, -1, -1, -1, -1, -1, -1, -1, -1, -1, -1, -1, -1])]))) 5 dX11_init_16 wX11_16 h0 (by rw [List.length_cons, nS1]) rfl ?_
  refine storH (fun h3 e3 => ?_)
  refine dupR dX11_init_19 ?_
  obtain ⟨S2, hS2⟩ : ∃ S : List Sh, S = S1 ++ townG (l.length + 5) := ⟨_, rfl⟩
  have nS2 : S2.length = 20 := by rw [hS2, List.length_append, nS1]; rfl
  refine invI0 rfl dX11_init_20 kX11_18 (Nat.le_of_ble_eq_true rfl) (by decide) (by decide) (k_inH (n9 := 5) (kc' := 260) (ks' := 8958) (I_X10_init) (fun _ => rfl) h0 (by rw [nS1]) (by rw [e3]; exact newH_s _ _) rfl rfl hS2 (fun h4 q4 f4 => ?_))
  refine k_putR (t' := ((10, 16, [((l.length + 1 : Nat) : Int), ((l.length + 5 : Nat) : Int), -1, -1, -1, -1, -1, -1, -1, -1, -1, -1, -1, -1, -1, -1]) :: S2)) dX11_init_23 fX11_19 rfl rfl rfl rfl rfl ?_
  refine aL0 dX11_init_26 ?_
  refine k_new (t' := ((10, 16, [((l.length + 1 : Nat) : Int), ((l.length + 5 : Nat) : Int), -1, -1, -1, -1, -1, -1, -1, -1, -1, -1, -1, -1, -1, -1]) :: (S2 ++ [(9, 20, [-1, -1, -1, -1, -1, -1, -1, -1, -1, -1, -1, -1, -1, -1, -1, -1, -1, -1, -1, -1])]))) 21 dX11_init_27 wX11_16 h0 (by rw [List.length_cons, nS2]) rfl ?_
  refine storH (fun h5 e5 => ?_)
  refine dupR dX11_init_30 ?_
  obtain ⟨S3, hS3⟩ : ∃ S : List Sh, S = S2 ++ townG (l.length + 21) := ⟨_, rfl⟩
  have nS3 : S3.length = 36 := by rw [hS3, List.length_append, nS2]; rfl
  refine invI0 rfl dX11_init_31 kX11_18 (Nat.le_of_ble_eq_true rfl) (by decide) (by decide) (k_inH (n9 := 21) (kc' := 244) (ks' := 8427) (I_X10_init) (fun _ => rfl) h0 (by rw [nS2]) (by rw [e5]; exact newH_s _ _) rfl rfl hS3 (fun h6 q6 f6 => ?_))
  refine k_putR (t' := ((10, 16, [((l.length + 1 : Nat) : Int), ((l.length + 5 : Nat) : Int), ((l.length + 21 : Nat) : Int), -1, -1, -1, -1, -1, -1, -1, -1, -1, -1, -1, -1, -1]) :: S3)) dX11_init_34 fX11_23 rfl rfl rfl rfl rfl ?_
  refine aL0 dX11_init_37 ?_
  refine k_new (t' := ((10, 16, [((l.length + 1 : Nat) : Int), ((l.length + 5 : Nat) : Int), ((l.length + 21 : Nat) : Int), -1, -1, -1, -1, -1, -1, -1, -1, -1, -1, -1, -1, -1]) :: (S3 ++ [(9, 20, [-1, -1, -1, -1, -1, -1, -1, -1, -1, -1, -1, -1, -1, -1, -1, -1, -1, -1, -1, -1])]))) 37 dX11_init_38 wX11_16 h0 (by rw [List.length_cons, nS3]) rfl ?_
  refine storH (fun h7 e7 => ?_)
  refine dupR dX11_init_41 ?_
  obtain ⟨S4, hS4⟩ : ∃ S : List Sh, S = S3 ++ townG (l.length + 37) := ⟨_, rfl⟩
  have nS4 : S4.length = 52 := by rw [hS4, List.length_append, nS3]; rfl
  refine invI0 rfl dX11_init_42 kX11_18 (Nat.le_of_ble_eq_true rfl) (by decide) (by decide) (k_inH (n9 := 37) (kc' := 228) (ks' := 7896) (I_X10_init) (fun _ => rfl) h0 (by rw [nS3]) (by rw [e7]; exact newH_s _ _) rfl rfl hS4 (fun h8 q8 f8 => ?_))
  refine k_putR (t' := ((10, 16, [((l.length + 1 : Nat) : Int), ((l.length + 5 : Nat) : Int), ((l.length + 21 : Nat) : Int), ((l.length + 37 : Nat) : Int), -1, -1, -1, -1, -1, -1, -1, -1, -1, -1, -1, -1]) :: S4)) dX11_init_45 fX11_26 rfl rfl rfl rfl rfl ?_
  refine aL0 dX11_init_48 ?_
  refine k_new (t' := ((10, 16, [((l.length + 1 : Nat) : Int), ((l.length + 5 : Nat) : Int), ((l.length + 21 : Nat) : Int), ((l.length + 37 : Nat) : Int), -1, -1, -1, -1, -1, -1, -1, -1, -1, -1, -1, -1]) :: (S4 ++ [(2, 7, [-1, -1, -1, -1, -1, -1, -1])]))) 53 dX11_init_49 wX11_29 h0 (by rw [List.length_cons, nS4]) rfl ?_
  refine storH (fun h9 e9 => ?_)
  refine dupR dX11_init_52 ?_
  obtain ⟨S5, hS5⟩ : ∃ S : List Sh, S = S4 ++ lawG (l.length + 53) := ⟨_, rfl⟩
  have nS5 : S5.length = 58 := by rw [hS5, List.length_append, nS4]; rfl
  refine invN0 rfl dX11_init_53 kX11_31 (Nat.le_of_ble_eq_true rfl) (by decide) (by decide) (k_inH (n9 := 53) (kc' := 222) (ks' := 7421) (I_X2_init) (fun _ => rfl) h0 (by rw [nS4]) (by rw [e9]; exact newH_s _ _) rfl rfl hS5 (fun h10 q10 f10 => ?_))
  refine k_putR (t' := ((10, 16, [((l.length + 1 : Nat) : Int), ((l.length + 5 : Nat) : Int), ((l.length + 21 : Nat) : Int), ((l.length + 37 : Nat) : Int), ((l.length + 53 : Nat) : Int), -1, -1, -1, -1, -1, -1, -1, -1, -1, -1, -1]) :: S5)) dX11_init_56 fX11_32 rfl rfl rfl rfl rfl ?_
  refine aL0 dX11_init_59 ?_
  refine k_new (t' := ((10, 16, [((l.length + 1 : Nat) : Int), ((l.length + 5 : Nat) : Int), ((l.length + 21 : Nat) : Int), ((l.length + 37 : Nat) : Int), ((l.length + 53 : Nat) : Int), -1, -1, -1, -1, -1, -1, -1, -1, -1, -1, -1]) :: (S5 ++ [(2, 7, [-1, -1, -1, -1, -1, -1, -1])]))) 59 dX11_init_60 wX11_29 h0 (by rw [List.length_cons, nS5]) rfl ?_
  refine storH (fun h11 e11 => ?_)
  refine dupR dX11_init_63 ?_
  obtain ⟨S6, hS6⟩ : ∃ S : List Sh, S = S5 ++ lawG (l.length + 59) := ⟨_, rfl⟩
  have nS6 : S6.length = 64 := by rw [hS6, List.length_append, nS5]; rfl
  refine invN0 rfl dX11_init_64 kX11_31 (Nat.le_of_ble_eq_true rfl) (by decide) (by decide) (k_inH (n9 := 59) (kc' := 216) (ks' := 6946) (I_X2_init) (fun _ => rfl) h0 (by rw [nS5]) (by rw [e11]; exact newH_s _ _) rfl rfl hS6 (fun h12 q12 f12 => ?_))
  refine k_putR (t' := ((10, 16, [((l.length + 1 : Nat) : Int), ((l.length + 5 : Nat) : Int), ((l.length + 21 : Nat) : Int), ((l.length + 37 : Nat) : Int), ((l.length + 53 : Nat) : Int), ((l.length + 59 : Nat) : Int), -1, -1, -1, -1, -1, -1, -1, -1, -1, -1]) :: S6)) dX11_init_67 fX11_36 rfl rfl rfl rfl rfl ?_
  refine aL0 dX11_init_70 ?_
  refine k_new (t' := ((10, 16, [((l.length + 1 : Nat) : Int), ((l.length + 5 : Nat) : Int), ((l.length + 21 : Nat) : Int), ((l.length + 37 : Nat) : Int), ((l.length + 53 : Nat) : Int), ((l.length + 59 : Nat) : Int), -1, -1, -1, -1, -1, -1, -1, -1, -1, -1]) :: (S6 ++ [(2, 7, [-1, -1, -1, -1, -1, -1, -1])]))) 65 dX11_init_71 wX11_29 h0 (by rw [List.length_cons, nS6]) rfl ?_
  refine storH (fun h13 e13 => ?_)
  refine dupR dX11_init_74 ?_
  obtain ⟨S7, hS7⟩ : ∃ S : List Sh, S = S6 ++ lawG (l.length + 65) := ⟨_, rfl⟩
  have nS7 : S7.length = 70 := by rw [hS7, List.length_append, nS6]; rfl
  refine invN0 rfl dX11_init_75 kX11_31 (Nat.le_of_ble_eq_true rfl) (by decide) (by decide) (k_inH (n9 := 65) (kc' := 210) (ks' := 6471) (I_X2_init) (fun _ => rfl) h0 (by rw [nS6]) (by rw [e13]; exact newH_s _ _) rfl rfl hS7 (fun h14 q14 f14 => ?_))
  refine k_putR (t' := ((10, 16, [((l.length + 1 : Nat) : Int), ((l.length + 5 : Nat) : Int), ((l.length + 21 : Nat) : Int), ((l.length + 37 : Nat) : Int), ((l.length + 53 : Nat) : Int), ((l.length + 59 : Nat) : Int), ((l.length + 65 : Nat) : Int), -1, -1, -1, -1, -1, -1, -1, -1, -1]) :: S7)) dX11_init_78 fX11_39 rfl rfl rfl rfl rfl ?_
  refine aL0 dX11_init_81 ?_
  refine k_new (t' := ((10, 16, [((l.length + 1 : Nat) : Int), ((l.length + 5 : Nat) : Int), ((l.length + 21 : Nat) : Int), ((l.length + 37 : Nat) : Int), ((l.length + 53 : Nat) : Int), ((l.length + 59 : Nat) : Int), ((l.length + 65 : Nat) : Int), -1, -1, -1, -1, -1, -1, -1, -1, -1]) :: (S7 ++ [(0, 3, [-1, -1, -1])]))) 71 dX11_init_82 wX11_42 h0 (by rw [List.length_cons, nS7]) rfl ?_
  refine storH (fun h15 e15 => ?_)
  refine dupR dX11_init_85 ?_
  refine aL0 dX11_init_86 ?_
  refine R_getR (b := (l.length + 1)) dX11_init_87 fX11_12.r (k_g0 rfl) rfl ?_
  refine aL0 dX11_init_90 ?_
  refine R_getR (b := (l.length + 21)) dX11_init_91 fX11_23.r (k_g0 rfl) rfl ?_
  obtain ⟨S8, hS8⟩ : ∃ S : List Sh, S = S7 ++ aszG (l.length + 1) (l.length + 21) (l.length + 71) := ⟨_, rfl⟩
  have nS8 : S8.length = 71 := by rw [hS8, List.length_append, nS7]; rfl
  refine invI2 rfl dX11_init_94 kX11_44 (Nat.le_of_ble_eq_true rfl) (by decide) (by decide) (k_inH (n9 := 71) (kc' := 209) (ks' := 6468) (I_X0_init (l.length + 1) (l.length + 21)) (fun _ => rfl) h0 (by rw [nS7]) (by rw [e15]; exact newH_s _ _) rfl rfl hS8 (fun h16 q16 f16 => ?_))
  refine k_putR (t' := ((10, 16, [((l.length + 1 : Nat) : Int), ((l.length + 5 : Nat) : Int), ((l.length + 21 : Nat) : Int), ((l.length + 37 : Nat) : Int), ((l.length + 53 : Nat) : Int), ((l.length + 59 : Nat) : Int), ((l.length + 65 : Nat) : Int), ((l.length + 71 : Nat) : Int), -1, -1, -1, -1, -1, -1, -1, -1]) :: S8)) dX11_init_97 fX11_47 rfl rfl rfl rfl rfl ?_
  refine aL0 dX11_init_100 ?_
  refine k_new (t' := ((10, 16, [((l.length + 1 : Nat) : Int), ((l.length + 5 : Nat) : Int), ((l.length + 21 : Nat) : Int), ((l.length + 37 : Nat) : Int), ((l.length + 53 : Nat) : Int), ((l.length + 59 : Nat) : Int), ((l.length + 65 : Nat) : Int), ((l.length + 71 : Nat) : Int), -1, -1, -1, -1, -1, -1, -1, -1]) :: (S8 ++ [(3, 3, [-1, -1, -1])]))) 72 dX11_init_101 wX11_51 h0 (by rw [List.length_cons, nS8]) rfl ?_
  refine storH (fun h17 e17 => ?_)
  refine dupR dX11_init_104 ?_
  refine aL0 dX11_init_105 ?_
  refine R_getR (b := (l.length + 1)) dX11_init_106 fX11_12.r (k_g0 rfl) rfl ?_
  refine aL0 dX11_init_109 ?_
  refine R_getR (b := (l.length + 59)) dX11_init_110 fX11_36.r (k_g0 rfl) rfl ?_
  obtain ⟨S9, hS9⟩ : ∃ S : List Sh, S = S8 ++ lwtG (l.length + 1) (l.length + 59) (l.length + 72) := ⟨_, rfl⟩
  have nS9 : S9.length = 72 := by rw [hS9, List.length_append, nS8]; rfl
  refine invI2 rfl dX11_init_113 kX11_53 (Nat.le_of_ble_eq_true rfl) (by decide) (by decide) (k_inH (n9 := 72) (kc' := 208) (ks' := 6465) (I_X3_init (l.length + 1) (l.length + 59)) (fun _ => rfl) h0 (by rw [nS8]) (by rw [e17]; exact newH_s _ _) rfl rfl hS9 (fun h18 q18 f18 => ?_))
  refine k_putR (t' := ((10, 16, [((l.length + 1 : Nat) : Int), ((l.length + 5 : Nat) : Int), ((l.length + 21 : Nat) : Int), ((l.length + 37 : Nat) : Int), ((l.length + 53 : Nat) : Int), ((l.length + 59 : Nat) : Int), ((l.length + 65 : Nat) : Int), ((l.length + 71 : Nat) : Int), ((l.length + 72 : Nat) : Int), -1, -1, -1, -1, -1, -1, -1]) :: S9)) dX11_init_116 fX11_56 rfl rfl rfl rfl rfl ?_
  refine aL0 dX11_init_119 ?_
  refine k_new (t' := ((10, 16, [((l.length + 1 : Nat) : Int), ((l.length + 5 : Nat) : Int), ((l.length + 21 : Nat) : Int), ((l.length + 37 : Nat) : Int), ((l.length + 53 : Nat) : Int), ((l.length + 59 : Nat) : Int), ((l.length + 65 : Nat) : Int), ((l.length + 71 : Nat) : Int), ((l.length + 72 : Nat) : Int), -1, -1, -1, -1, -1, -1, -1]) :: (S9 ++ [(1, 3, [-1, -1, -1])]))) 73 dX11_init_120 wX11_60 h0 (by rw [List.length_cons, nS9]) rfl ?_
  refine storH (fun h19 e19 => ?_)
  refine dupR dX11_init_123 ?_
  refine aL0 dX11_init_124 ?_
  refine R_getR (b := (l.length + 5)) dX11_init_125 fX11_19.r (k_g0 rfl) rfl ?_
  refine aL0 dX11_init_128 ?_
  refine R_getR (b := (l.length + 53)) dX11_init_129 fX11_32.r (k_g0 rfl) rfl ?_
  obtain ⟨S10, hS10⟩ : ∃ S : List Sh, S = S9 ++ crtG (l.length + 5) (l.length + 53) (l.length + 73) := ⟨_, rfl⟩
  have nS10 : S10.length = 74 := by rw [hS10, List.length_append, nS9]; rfl
  refine invI2 rfl dX11_init_132 kX11_62 (Nat.le_of_ble_eq_true rfl) (by decide) (by decide) (k_inH (n9 := 73) (kc' := 206) (ks' := 6452) (I_X1_init (l.length + 5) (l.length + 53)) (fun _ => rfl) h0 (by rw [nS9]) (by rw [e19]; exact newH_s _ _) rfl rfl hS10 (fun h20 q20 f20 => ?_))
  refine k_putR (t' := ((10, 16, [((l.length + 1 : Nat) : Int), ((l.length + 5 : Nat) : Int), ((l.length + 21 : Nat) : Int), ((l.length + 37 : Nat) : Int), ((l.length + 53 : Nat) : Int), ((l.length + 59 : Nat) : Int), ((l.length + 65 : Nat) : Int), ((l.length + 71 : Nat) : Int), ((l.length + 72 : Nat) : Int), ((l.length + 73 : Nat) : Int), -1, -1, -1, -1, -1, -1]) :: S10)) dX11_init_135 fX11_65 rfl rfl rfl rfl rfl ?_
  refine aL0 dX11_init_138 ?_
  refine k_new (t' := ((10, 16, [((l.length + 1 : Nat) : Int), ((l.length + 5 : Nat) : Int), ((l.length + 21 : Nat) : Int), ((l.length + 37 : Nat) : Int), ((l.length + 53 : Nat) : Int), ((l.length + 59 : Nat) : Int), ((l.length + 65 : Nat) : Int), ((l.length + 71 : Nat) : Int), ((l.length + 72 : Nat) : Int), ((l.length + 73 : Nat) : Int), -1, -1, -1, -1, -1, -1]) :: (S10 ++ [(7, 3, [-1, -1, -1])]))) 75 dX11_init_139 wX11_69 h0 (by rw [List.length_cons, nS10]) rfl ?_
  refine storH (fun h21 e21 => ?_)
  refine dupR dX11_init_142 ?_
  refine aL0 dX11_init_143 ?_
  refine R_getR (b := (l.length + 5)) dX11_init_144 fX11_19.r (k_g0 rfl) rfl ?_
  refine aL0 dX11_init_147 ?_
  refine R_getR (b := (l.length + 73)) dX11_init_148 fX11_65.r (k_g0 rfl) rfl ?_
  obtain ⟨S11, hS11⟩ : ∃ S : List Sh, S = S10 ++ sitG (l.length + 5) (l.length + 73) (l.length + 75) := ⟨_, rfl⟩
  have nS11 : S11.length = 76 := by rw [hS11, List.length_append, nS10]; rfl
  refine invI2 rfl dX11_init_151 kX11_71 (Nat.le_of_ble_eq_true rfl) (by decide) (by decide) (k_inH (n9 := 75) (kc' := 204) (ks' := 6444) (I_X7_init (l.length + 5) (l.length + 73)) (fun _ => rfl) h0 (by rw [nS10]) (by rw [e21]; exact newH_s _ _) rfl rfl hS11 (fun h22 q22 f22 => ?_))
  refine k_putR (t' := ((10, 16, [((l.length + 1 : Nat) : Int), ((l.length + 5 : Nat) : Int), ((l.length + 21 : Nat) : Int), ((l.length + 37 : Nat) : Int), ((l.length + 53 : Nat) : Int), ((l.length + 59 : Nat) : Int), ((l.length + 65 : Nat) : Int), ((l.length + 71 : Nat) : Int), ((l.length + 72 : Nat) : Int), ((l.length + 73 : Nat) : Int), ((l.length + 75 : Nat) : Int), -1, -1, -1, -1, -1]) :: S11)) dX11_init_154 fX11_74 rfl rfl rfl rfl rfl ?_
  refine aL0 dX11_init_157 ?_
  refine k_new (t' := ((10, 16, [((l.length + 1 : Nat) : Int), ((l.length + 5 : Nat) : Int), ((l.length + 21 : Nat) : Int), ((l.length + 37 : Nat) : Int), ((l.length + 53 : Nat) : Int), ((l.length + 59 : Nat) : Int), ((l.length + 65 : Nat) : Int), ((l.length + 71 : Nat) : Int), ((l.length + 72 : Nat) : Int), ((l.length + 73 : Nat) : Int), ((l.length + 75 : Nat) : Int), -1, -1, -1, -1, -1]) :: (S11 ++ [(7, 3, [-1, -1, -1])]))) 77 dX11_init_158 wX11_69 h0 (by rw [List.length_cons, nS11]) rfl ?_
  refine storH (fun h23 e23 => ?_)
  refine dupR dX11_init_161 ?_
  refine aL0 dX11_init_162 ?_
  refine R_getR (b := (l.length + 21)) dX11_init_163 fX11_23.r (k_g0 rfl) rfl ?_
  obtain ⟨S12, hS12⟩ : ∃ S : List Sh, S = S11 ++ [(7, 3, [-1, -1, -1])] := ⟨_, rfl⟩
  have nS12 : S12.length = 77 := by rw [hS12, List.length_append, nS11]; rfl
  rw [← hS12]
  refine k_new (t' := ((10, 16, [((l.length + 1 : Nat) : Int), ((l.length + 5 : Nat) : Int), ((l.length + 21 : Nat) : Int), ((l.length + 37 : Nat) : Int), ((l.length + 53 : Nat) : Int), ((l.length + 59 : Nat) : Int), ((l.length + 65 : Nat) : Int), ((l.length + 71 : Nat) : Int), ((l.length + 72 : Nat) : Int), ((l.length + 73 : Nat) : Int), ((l.length + 75 : Nat) : Int), -1, -1, -1, -1, -1]) :: (S12 ++ [(1, 3, [-1, -1, -1])]))) 78 dX11_init_166 wX11_60 h0 (by rw [List.length_cons, nS12]) rfl ?_
  refine storH (fun h24 e24 => ?_)
  refine dupR dX11_init_169 ?_
  refine aL0 dX11_init_170 ?_
  refine R_getR (b := (l.length + 21)) dX11_init_171 fX11_23.r (k_g0 rfl) rfl ?_
  refine aL0 dX11_init_174 ?_
  refine R_getR (b := (l.length + 53)) dX11_init_175 fX11_32.r (k_g0 rfl) rfl ?_
  obtain ⟨S13, hS13⟩ : ∃ S : List Sh, S = S12 ++ crtG (l.length + 21) (l.length + 53) (l.length + 78) := ⟨_, rfl⟩
  have nS13 : S13.length = 79 := by rw [hS13, List.length_append, nS12]; rfl
  refine invI2x rfl dX11_init_178 kX11_62 (Nat.le_of_ble_eq_true rfl) rfl (by decide) (by decide) (k_inH (n9 := 78) (kc' := 201) (ks' := 6428) (I_X1_init (l.length + 21) (l.length + 53)) (fun _ => rfl) h0 (by rw [nS12]) (by rw [e24]; exact newH_s _ _) rfl rfl hS13 (fun h25 q25 f25 => ?_))
  obtain ⟨S14, hS14⟩ : ∃ S : List Sh, S = ((S11 ++ [(7, 3, [((l.length + 21 : Nat) : Int), ((l.length + 78 : Nat) : Int), ((l.length + 80 : Nat) : Int)])]) ++ crtG (l.length + 21) (l.length + 53) (l.length + 78)) ++ [(13, 5, [])] := ⟨_, rfl⟩
  have nS14 : S14.length = 80 := by rw [hS14, List.length_append, List.length_append, List.length_append, nS11]; rfl
  refine invI2 rfl dX11_init_181 kX11_71 (Nat.le_of_ble_eq_true rfl) (by decide) (by decide) (C_X7_more (l := l) (t := ((10, 16, [((l.length + 1 : Nat) : Int), ((l.length + 5 : Nat) : Int), ((l.length + 21 : Nat) : Int), ((l.length + 37 : Nat) : Int), ((l.length + 53 : Nat) : Int), ((l.length + 59 : Nat) : Int), ((l.length + 65 : Nat) : Int), ((l.length + 71 : Nat) : Int), ((l.length + 72 : Nat) : Int), ((l.length + 73 : Nat) : Int), ((l.length + 75 : Nat) : Int), -1, -1, -1, -1, -1]) :: S13)) (t' := ((10, 16, [((l.length + 1 : Nat) : Int), ((l.length + 5 : Nat) : Int), ((l.length + 21 : Nat) : Int), ((l.length + 37 : Nat) : Int), ((l.length + 53 : Nat) : Int), ((l.length + 59 : Nat) : Int), ((l.length + 65 : Nat) : Int), ((l.length + 71 : Nat) : Int), ((l.length + 72 : Nat) : Int), ((l.length + 73 : Nat) : Int), ((l.length + 75 : Nat) : Int), -1, -1, -1, -1, -1]) :: S14)) (j := 77) 80 (by rw [hS13, hS12]; exact g_mid nS11) (by rw [List.length_cons, nS13]) h0 (by rw [hS14, hS13, hS12]; exact s_mid nS11) (fun h26 q26 => ⟨fun _ => ⟨h0, by show (l ++ _).length = (l ++ _).length + 1; rw [List.length_append, List.length_append, List.length_cons, List.length_cons, nS14, nS13]⟩, ?_⟩))
  refine k_putR (t' := ((10, 16, [((l.length + 1 : Nat) : Int), ((l.length + 5 : Nat) : Int), ((l.length + 21 : Nat) : Int), ((l.length + 37 : Nat) : Int), ((l.length + 53 : Nat) : Int), ((l.length + 59 : Nat) : Int), ((l.length + 65 : Nat) : Int), ((l.length + 71 : Nat) : Int), ((l.length + 72 : Nat) : Int), ((l.length + 73 : Nat) : Int), ((l.length + 75 : Nat) : Int), ((l.length + 77 : Nat) : Int), -1, -1, -1, -1]) :: S14)) dX11_init_184 fX11_78 rfl rfl rfl rfl rfl ?_
  refine aL0 dX11_init_187 ?_
  refine k_new (t' := ((10, 16, [((l.length + 1 : Nat) : Int), ((l.length + 5 : Nat) : Int), ((l.length + 21 : Nat) : Int), ((l.length + 37 : Nat) : Int), ((l.length + 53 : Nat) : Int), ((l.length + 59 : Nat) : Int), ((l.length + 65 : Nat) : Int), ((l.length + 71 : Nat) : Int), ((l.length + 72 : Nat) : Int), ((l.length + 73 : Nat) : Int), ((l.length + 75 : Nat) : Int), ((l.length + 77 : Nat) : Int), -1, -1, -1, -1]) :: (S14 ++ [(5, 8, [-1, -1, -1, -1, -1, -1, -1, -1])]))) 81 dX11_init_188 wX11_81 h0 (by rw [List.length_cons, nS14]) rfl ?_
  refine storH (fun h27 e27 => ?_)
  refine dupR dX11_init_191 ?_
  refine aL0 dX11_init_192 ?_
  refine R_getR (b := (l.length + 5)) dX11_init_193 fX11_19.r (k_g0 rfl) rfl ?_
  refine aL0 dX11_init_196 ?_
  refine R_getR (b := (l.length + 73)) dX11_init_197 fX11_65.r (k_g0 rfl) rfl ?_
  obtain ⟨S15, hS15⟩ : ∃ S : List Sh, S = S14 ++ mtcG (l.length + 5) (l.length + 73) (l.length + 81) := ⟨_, rfl⟩
  have nS15 : S15.length = 86 := by rw [hS15, List.length_append, nS14]; rfl
  refine invI2 rfl dX11_init_200 kX11_83 (Nat.le_of_ble_eq_true rfl) (by decide) (by decide) (k_inH (n9 := 81) (kc' := 194) (ks' := 6387) (I_X5_init (l.length + 5) (l.length + 73)) (fun _ => rfl) h0 (by rw [nS14]) (by rw [e27]; exact newH_s _ _) rfl rfl hS15 (fun h28 q28 f28 => ?_))
  refine k_putR (t' := ((10, 16, [((l.length + 1 : Nat) : Int), ((l.length + 5 : Nat) : Int), ((l.length + 21 : Nat) : Int), ((l.length + 37 : Nat) : Int), ((l.length + 53 : Nat) : Int), ((l.length + 59 : Nat) : Int), ((l.length + 65 : Nat) : Int), ((l.length + 71 : Nat) : Int), ((l.length + 72 : Nat) : Int), ((l.length + 73 : Nat) : Int), ((l.length + 75 : Nat) : Int), ((l.length + 77 : Nat) : Int), ((l.length + 81 : Nat) : Int), -1, -1, -1]) :: S15)) dX11_init_203 fX11_84 rfl rfl rfl rfl rfl ?_
  refine aL0 dX11_init_206 ?_
  refine k_new (t' := ((10, 16, [((l.length + 1 : Nat) : Int), ((l.length + 5 : Nat) : Int), ((l.length + 21 : Nat) : Int), ((l.length + 37 : Nat) : Int), ((l.length + 53 : Nat) : Int), ((l.length + 59 : Nat) : Int), ((l.length + 65 : Nat) : Int), ((l.length + 71 : Nat) : Int), ((l.length + 72 : Nat) : Int), ((l.length + 73 : Nat) : Int), ((l.length + 75 : Nat) : Int), ((l.length + 77 : Nat) : Int), ((l.length + 81 : Nat) : Int), -1, -1, -1]) :: (S15 ++ [(6, 3, [-1, -1, -1])]))) 87 dX11_init_207 wX11_88 h0 (by rw [List.length_cons, nS15]) rfl ?_
  refine storH (fun h29 e29 => ?_)
  refine dupR dX11_init_210 ?_
  obtain ⟨S16, hS16⟩ : ∃ S : List Sh, S = S15 ++ pasG (l.length + 87) := ⟨_, rfl⟩
  have nS16 : S16.length = 280 := by rw [hS16, List.length_append, nS15]; rfl
  refine invI0 rfl dX11_init_211 kX11_90 (Nat.le_of_ble_eq_true rfl) (by decide) (by decide) (k_inH (n9 := 87) (kc' := 0) (ks' := 0) (I_X6_init) (fun _ => rfl) h0 (by rw [nS15]) (by rw [e29]; exact newH_s _ _) rfl rfl hS16 (fun h30 q30 f30 => ?_))
  refine k_putR (t' := ((10, 16, [((l.length + 1 : Nat) : Int), ((l.length + 5 : Nat) : Int), ((l.length + 21 : Nat) : Int), ((l.length + 37 : Nat) : Int), ((l.length + 53 : Nat) : Int), ((l.length + 59 : Nat) : Int), ((l.length + 65 : Nat) : Int), ((l.length + 71 : Nat) : Int), ((l.length + 72 : Nat) : Int), ((l.length + 73 : Nat) : Int), ((l.length + 75 : Nat) : Int), ((l.length + 77 : Nat) : Int), ((l.length + 81 : Nat) : Int), ((l.length + 87 : Nat) : Int), -1, -1]) :: S16)) dX11_init_214 fX11_91 rfl rfl rfl rfl rfl ?_
  refine aL0 dX11_init_217 ?_
  refine R_iconst_0 dX11_init_218 ?_
  refine R_putIZ dX11_init_219 fX11_95 (k_g0 rfl) (by decide) ?_
  refine storH (fun h31 e31 => ?_)
  refine aL0 dX11_init_222 ?_
  refine R_iconst_m1 dX11_init_223 ?_
  refine R_putI dX11_init_224 fX11_99 (k_g0 rfl) ?_
  refine storH (fun h32 e32 => ?_)
  have g1 : h32 (l.length + 1) 3 = 0 := by rw [e32, updH_a (by omega), e31, updH_a (by omega), q30 _ (by omega), e29, newH_a (by omega), q28 _ (by omega), e27, newH_a (by omega), q26 _ (by omega), q25 _ (by omega), e24, newH_a (by omega), e23, newH_a (by omega), q22 _ (by omega), e21, newH_a (by omega), q20 _ (by omega), e19, newH_a (by omega), q18 _ (by omega), e17, newH_a (by omega), q16 _ (by omega), e15, newH_a (by omega), q14 _ (by omega), e13, newH_a (by omega), q12 _ (by omega), e11, newH_a (by omega), q10 _ (by omega), e9, newH_a (by omega), q8 _ (by omega), e7, newH_a (by omega), q6 _ (by omega), e5, newH_a (by omega), q4 _ (by omega), e3, newH_a (by omega)]; exact f2
  have g2 : Tw h32 (l.length + 5) w0 := Tw.eq f4 (fun i hi => by rw [e32, updH_a (by omega), e31, updH_a (by omega), q30 _ (by omega), e29, newH_a (by omega), q28 _ (by omega), e27, newH_a (by omega), q26 _ (by omega), q25 _ (by omega), e24, newH_a (by omega), e23, newH_a (by omega), q22 _ (by omega), e21, newH_a (by omega), q20 _ (by omega), e19, newH_a (by omega), q18 _ (by omega), e17, newH_a (by omega), q16 _ (by omega), e15, newH_a (by omega), q14 _ (by omega), e13, newH_a (by omega), q12 _ (by omega), e11, newH_a (by omega), q10 _ (by omega), e9, newH_a (by omega), q8 _ (by omega), e7, newH_a (by omega), q6 _ (by omega), e5, newH_a (by omega)])
  have g3 : h32 (l.length + 53) 0 = -1 := by rw [e32, updH_a (by omega), e31, updH_a (by omega), q30 _ (by omega), e29, newH_a (by omega), q28 _ (by omega), e27, newH_a (by omega), q26 _ (by omega), q25 _ (by omega), e24, newH_a (by omega), e23, newH_a (by omega), q22 _ (by omega), e21, newH_a (by omega), q20 _ (by omega), e19, newH_a (by omega), q18 _ (by omega), e17, newH_a (by omega), q16 _ (by omega), e15, newH_a (by omega), q14 _ (by omega), e13, newH_a (by omega), q12 _ (by omega), e11, newH_a (by omega)]; exact f10
  have g4 : h32 (l.length + 71) 1 = 14 := by rw [e32, updH_a (by omega), e31, updH_a (by omega), q30 _ (by omega), e29, newH_a (by omega), q28 _ (by omega), e27, newH_a (by omega), q26 _ (by omega), q25 _ (by omega), e24, newH_a (by omega), e23, newH_a (by omega), q22 _ (by omega), e21, newH_a (by omega), q20 _ (by omega), e19, newH_a (by omega), q18 _ (by omega), e17, newH_a (by omega)]; exact f16
  have g5 : h32 (l.length + 72) 1 = 12 := by rw [e32, updH_a (by omega), e31, updH_a (by omega), q30 _ (by omega), e29, newH_a (by omega), q28 _ (by omega), e27, newH_a (by omega), q26 _ (by omega), q25 _ (by omega), e24, newH_a (by omega), e23, newH_a (by omega), q22 _ (by omega), e21, newH_a (by omega), q20 _ (by omega), e19, newH_a (by omega)]; exact f18
  have g6 : h32 (l.length + 87) 1 = 0 := by rw [e32, updH_a (by omega), e31, updH_a (by omega)]; exact f30.1
  have g7 : h32 (l.length + 87) 2 = 0 := by rw [e32, updH_a (by omega), e31, updH_a (by omega)]; exact f30.2
  have g8 : h32 l.length 14 = 0 := by rw [e32, updH_i (by omega), e31, updH_s]
  have g9 : h32 l.length 15 = -1 := by rw [e32, updH_s]
  have hfin : ((10, 16, [((l.length + 1 : Nat) : Int), ((l.length + 5 : Nat) : Int), ((l.length + 21 : Nat) : Int), ((l.length + 37 : Nat) : Int), ((l.length + 53 : Nat) : Int), ((l.length + 59 : Nat) : Int), ((l.length + 65 : Nat) : Int), ((l.length + 71 : Nat) : Int), ((l.length + 72 : Nat) : Int), ((l.length + 73 : Nat) : Int), ((l.length + 75 : Nat) : Int), ((l.length + 77 : Nat) : Int), ((l.length + 81 : Nat) : Int), ((l.length + 87 : Nat) : Int), -1, -1]) :: S16) = clsG l.length := by rw [hS16, hS15, hS14, hS11, hS10, hS9, hS8, hS7, hS6, hS5, hS4, hS3, hS2, hS1]; rfl
  rw [hfin]
  exact R_vret dX11_init_227 rfl (K _ (fun q hq => by rw [e32, updH_a (by omega), e31, updH_a (by omega), q30 _ (by omega), e29, newH_a (by omega), q28 _ (by omega), e27, newH_a (by omega), q26 _ (by omega), q25 _ (by omega), e24, newH_a (by omega), e23, newH_a (by omega), q22 _ (by omega), e21, newH_a (by omega), q20 _ (by omega), e19, newH_a (by omega), q18 _ (by omega), e17, newH_a (by omega), q16 _ (by omega), e15, newH_a (by omega), q14 _ (by omega), e13, newH_a (by omega), q12 _ (by omega), e11, newH_a (by omega), q10 _ (by omega), e9, newH_a (by omega), q8 _ (by omega), e7, newH_a (by omega), q6 _ (by omega), e5, newH_a (by omega), q4 _ (by omega), e3, newH_a (by omega), q2 _ (by omega), e1, newH_a (by omega)]) ⟨g1, g2, g3, g4, g5, ⟨g6, g7⟩, g8, g9⟩)
