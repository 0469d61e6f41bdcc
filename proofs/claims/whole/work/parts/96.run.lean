/-! FROM THE ENTRY -/
/-- the constructors are done: from here on other cells may come -/
theorem Run.flag {d kc ks : Nat} {y : Mth} {pc : Nat} {ls st : List AV} {S : List Sh} {gg : Nat × (Nat → Int)} {h : Hc} {P : Po} (K : Run d kc ks y pc ls st (S, (1, gg)) h P) : Run d kc ks y pc ls st (S, (0, gg)) h P := by
  intro z p l e R s m args below meth c H locs cells slots rls C hc hs hR hE hS hL ho1 ho2
  exact K z p l e R s m args below meth c H locs cells slots rls C hc hs hR (fun e9 => absurd (show (1 : Nat) = 0 from e9) (by decide)) hS hL ho1 ho2
def allS : List Sh := (clsG 0 ++ mdL 281) ++ [(14, 1, [])]
theorem TwG_x {g : Gs} {t : Nat} (h : ∀ i : Fin 16, g.1[t + i]? = (townG t)[(i : Nat)]?) : TwG g t := fun i hi => h ⟨i, hi⟩
theorem allS_Tw : ∀ t ∈ ([5, 21, 37] : List Nat), ∀ i : Fin 16, allS[t + (i : Nat)]? = (townG t)[(i : Nat)]? := by decide +kernel
theorem allS_Pt : ∀ k : Fin 12, ∀ i : Fin 16, allS[paT 87 (k : Nat) + (i : Nat)]? = (townG (paT 87 (k : Nat)))[(i : Nat)]? := by decide +kernel
theorem allS_Lw : ∀ t ∈ ([53, 59, 65] : List Nat), ∀ i : Fin 6, allS[t + (i : Nat)]? = (lawG t)[(i : Nat)]? := by decide +kernel
theorem allS_Md : ∀ i : Fin 19, allS[281 + (i : Nat)]? = (mdL 281)[(i : Nat)]? := by decide +kernel
theorem allS_ClG {gg : Nat × (Nat → Int)} : ClG (allS, (1, gg)) 0 := by
  refine ⟨rfl, ?_, ⟨?_, ?_, ?_, ?_⟩, ⟨?_, ?_, ?_⟩, ⟨?_, ?_, ?_⟩, ⟨?_, ?_⟩, ⟨⟨?_, ?_⟩, ⟨?_, ?_⟩⟩, ⟨⟨?_, ?_⟩, ⟨?_, ?_⟩⟩, ⟨?_, ?_, ?_, ?_, ?_, ?_⟩, ⟨?_, ?_, ?_⟩⟩
  · show allS[0]? = _; decide +kernel
  · show allS[0 + 1]? = _; decide +kernel
  · show allS[0 + 2]? = _; decide +kernel
  · show allS[0 + 3]? = _; decide +kernel
  · show allS[0 + 4]? = _; decide +kernel
  · exact fun i hi => allS_Tw 5 (by decide) ⟨i, hi⟩
  · exact fun i hi => allS_Tw 21 (by decide) ⟨i, hi⟩
  · exact fun i hi => allS_Tw 37 (by decide) ⟨i, hi⟩
  · exact fun i hi => allS_Lw 53 (by decide) ⟨i, hi⟩
  · exact fun i hi => allS_Lw 59 (by decide) ⟨i, hi⟩
  · exact fun i hi => allS_Lw 65 (by decide) ⟨i, hi⟩
  · show allS[0 + 71]? = _; decide +kernel
  · show allS[0 + 72]? = _; decide +kernel
  · show allS[0 + 73]? = _; decide +kernel
  · show allS[0 + 73 + 1]? = _; decide +kernel
  · show allS[0 + 75]? = _; decide +kernel
  · show allS[0 + 76]? = _; decide +kernel
  · show allS[0 + 78]? = _; decide +kernel
  · show allS[0 + 78 + 1]? = _; decide +kernel
  · show allS[0 + 77]? = _; decide +kernel
  · show allS[0 + 80]? = _; decide +kernel
  · show allS[0 + 81]? = _; decide +kernel
  · show allS[0 + 81 + 1]? = _; decide +kernel
  · show allS[0 + 81 + 2]? = _; decide +kernel
  · show allS[0 + 81 + 3]? = _; decide +kernel
  · show allS[0 + 81 + 4]? = _; decide +kernel
  · show allS[0 + 81 + 5]? = _; decide +kernel
  · show allS[0 + 87]? = _; decide +kernel
  · show allS[0 + 87 + 1]? = _; decide +kernel
  · exact fun k hk i hi => allS_Pt ⟨k, hk⟩ ⟨i, hi⟩
theorem allS_out : allS[300]? = some (14, 1, []) := by decide +kernel
theorem allS_G9 {gg : Nat × (Nat → Int)} : G9 (allS, (1, gg)) := ⟨allS_ClG, ⟨rfl, fun i hi => allS_Md ⟨i, hi⟩⟩, allS_out⟩
theorem clsG_len : (clsG 0).length = 281 := by decide +kernel
theorem clmd_len : (clsG 0 ++ mdL 281).length = 300 := by decide +kernel
theorem IX_0 {h : Hc} (e1 : h 1 3 = 0) (tw : Tw h 5 w0) (e2 : h 53 0 = -1) (e3 : h 71 1 = 14) (e4 : h 72 1 = 12) (e5 : h 87 1 = 0 ∧ h 87 2 = 0) (e6 : h 0 14 = 0) (e7 : h 0 15 = -1) (m1 : h 282 = w0) (m2 : h 281 6 = 0) (m3 : h 281 7 = 0) (m4 : h 281 9 = 0) (m5 : h 281 14 = -1) : IX h := by
  have n3 : ¬ w0 3 = 1 := by decide
  refine ⟨w0, fun _ => w0, 0, 0, fun _ => 0, 0, w0, -1, ?_, ?_, ?_⟩
  · exact ⟨tw, ⟨fun _ => e2, fun q => absurd q n3⟩, ⟨⟨e5.2, by omega⟩, ⟨by omega, by omega⟩, fun k hk => absurd hk (by omega)⟩, ⟨e1, fun k hk => absurd hk (by omega)⟩, ⟨e6, fun q => absurd rfl q⟩, e7, e3, e4⟩
  · exact ⟨m1, ⟨m3, by omega, fun k i hk => absurd hk (by omega)⟩, ⟨m4, fun k hk => absurd hk (by omega)⟩, ⟨m2, fun q => absurd rfl q⟩, m5⟩
  · exact ⟨w0_WF, fun q => absurd q n3, (fun k hk => absurd hk (by omega)), by omega, (fun k hk => absurd hk (by omega)), fun q => absurd rfl q⟩
theorem mdlG_len (a : Nat) : (mdlG a).length = 18 + 1 := rfl
set_option maxRecDepth 60000 in
theorem clsG_lenA (a : Nat) : (clsG a).length = 280 + 1 := by
  unfold clsG
  simp only [List.length_cons, List.length_append]
  rfl
theorem law_run2 {C : List Sh} {gg : Nat × (Nat → Int)} {h : Hc} {P : Po} {kc' ks' : Nat} (cl : C.length = 281) (dl : (C ++ mdL 281).length = 300) (KK : ∀ h', (∀ q, q < 281 → h' q = h q) → h' 282 = w0 → h' 281 6 = 0 → h' 281 7 = 0 → h' 281 9 = 0 → h' 281 14 = -1 → Run 45 kc' ks' mL_law_ 23 [vX 0, vR 0, vR 281, vR 300, vI ((0 : Nat) : Int), vU, vU] [] ((C ++ mdL 281) ++ [(14, 1, [])], (0, gg)) h' P) : Run 45 (kc' + 1 + 18 + 1) (ks' + 1 + 13229 + 31) mL_law_ 8 [vX 0, vR 0, vU, vU, vU, vU, vU] [] (C ++ [], (0, gg)) h P := by
  refine k_new (l := C) (t := []) (t' := [(11, 31, List.replicate 31 (-1))]) 0 dL_law__8 wL_128 rfl rfl rfl ?_
  refine storH (fun h1 e1 => ?_)
  refine dupR dL_law__11 ?_
  refine invI0 rfl dL_law__12 kL_130 (Nat.le_of_ble_eq_true rfl) (by omega) (by omega) (k_ini (t := []) (n9 := 0) (kc' := kc' + 1) (ks' := ks' + 1) (I_X12_init (d := 44)) mdlG_len rfl rfl (by rw [e1]; exact newH_s _ _) rfl rfl (fun h2 q2 f2 => ?_))
  have hE : C ++ (([] : List Sh) ++ mdlG (C.length + 0)) = C ++ mdL 281 := by rw [cl]; rfl
  rw [hE, show C.length + 0 = 281 from cl]
  rw [show C.length + 0 = 281 from cl] at f2 q2 e1
  obtain ⟨m1, m2, m3, m4, m5⟩ := f2
  generalize C ++ mdL 281 = D9 at KK dl
  refine aS2 dL_law__15 ?_
  refine R_iconst_1 dL_law__16 ?_
  refine R_newJ (N := 1) dL_law__17 lb_long (by decide) rfl ?_
  refine storH (fun h3 e3 => ?_)
  rw [show ((D9, (0, gg)) : Gs).1.length = 300 from dl] at e3 ⊢
  refine aS3 dL_law__19 ?_
  refine R_iconst_0 dL_law__20 ?_
  refine iS4 dL_law__21 ?_
  have z : ∀ q, q < 300 → h3 q = h2 q := fun q hq => by rw [e3]; exact newH_a (by omega)
  refine KK h3 (fun q hq => ?_) ?_ ?_ ?_ ?_ ?_
  · rw [z q (by omega), q2 q (by omega), e1]; exact newH_a (by omega)
  · rw [z 282 (by omega)]; exact m1
  · rw [z 281 (by omega)]; exact m2
  · rw [z 281 (by omega)]; exact m3
  · rw [z 281 (by omega)]; exact m4
  · rw [z 281 (by omega)]; exact m5
theorem law_run1 {l : List Sh} {gg : Nat × (Nat → Int)} {h : Hc} {P : Po} (hl : l = []) (hL : gg.1 ≤ 3072) (KP : ∀ h, P (.inl (some (vI 1))) (allS, (1, gg)) h) : Run 45 (4 * 3072 + 1 + 18 + 1 + 280 + 1) (24 * 3072 + 1 + 13229 + 31 + 10697 + 16) mL_law_ 0 [vX 0, vU, vU, vU, vU, vU, vU] [] (l ++ [], (0, gg)) h P := by
  refine k_new (l := l) (t := []) (t' := [(10, 16, List.replicate 16 (-1))]) 0 dL_law__0 wL_8 rfl rfl rfl ?_
  refine storH (fun h1 e1 => ?_)
  refine dupR dL_law__3 ?_
  refine invI0 rfl dL_law__4 kL_127 (Nat.le_of_ble_eq_true rfl) (by omega) (by omega) (k_ini (t := []) (n9 := 0) (kc' := 4 * 3072 + 1 + 18 + 1) (ks' := 24 * 3072 + 1 + 13229 + 31) (I_X11_init (d := 41)) clsG_lenA rfl rfl (by rw [e1]; exact newH_s _ _) rfl rfl (fun h2 q2 f2 => ?_))
  have h0 : l.length + 0 = 0 := by rw [hl]; rfl
  have hE : l ++ (([] : List Sh) ++ clsG (l.length + 0)) = clsG 0 ++ [] := by rw [h0, hl, List.append_nil]; rfl
  rw [hE, h0]
  rw [h0] at f2
  obtain ⟨a1, a2, a3, a4, a5, a6, a7, a8⟩ := f2
  refine aS1 dL_law__7 ?_
  refine law_run2 clsG_len clmd_len (fun h3 z3 m1 m2 m3 m4 m5 => ?_)
  refine Run.flag ?_
  refine law_loop (g := (allS, (1, gg))) allS_G9 KP 3072 0 _ _ h3 _ _ ?_ (by omega) (Nat.le_refl _) (Nat.le_refl _) ?_
  · show gg.1 ≤ 0 + 3072; omega
  · exact IX_0 (by rw [z3 1 (by omega)]; exact a1) (a2.eqc (fun i hi => z3 _ (by omega))) (by rw [z3 53 (by omega)]; exact a3) (by rw [z3 71 (by omega)]; exact a4) (by rw [z3 72 (by omega)]; exact a5) (by rw [z3 87 (by omega)]; exact a6) (by rw [z3 0 (by omega)]; exact a7) (by rw [z3 0 (by omega)]; exact a8) m1 m2 m3 m4 m5
