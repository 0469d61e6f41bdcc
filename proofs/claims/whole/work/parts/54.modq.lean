theorem cntB_b {p : Nat → Bool} {n : Nat} : ((cntB p n : Nat) : Int) + bI (p n) = ((cntB p (n + 1) : Nat) : Int) := by
  cases h : p n
  · rw [cntB_f h]; simp [bI]
  · rw [cntB_t h]; simp [bI]
theorem in32_leanF (w : Nat → Int) (c : Nat) : ∀ n, in32 (leanF w c n)
  | 0 => in32_shlI _ _
  | n + 1 => by
    cases h : leanP w c (leanF w c n) n
    · rw [leanF_f h]; exact in32_leanF w c n
    · rw [leanF_t h]; exact in32_orI _ _
theorem leanF_ob {w : Nat → Int} {c n : Nat} : orI (leanF w c n) (obI (leanP w c (leanF w c n) n) n) = leanF w c (n + 1) := by
  cases h : leanP w c (leanF w c n) n
  · rw [leanF_f h]; exact orI_0 (in32_leanF w c n)
  · rw [leanF_t h]; rfl
theorem in32_crumF (w : Nat → Int) (j : Int) : ∀ n, in32 (crumF w j n)
  | 0 => by show in32 0; unfold in32; omega
  | n + 1 => by
    cases h : crumP w j n
    · rw [crumF_f h]; exact in32_crumF w j n
    · rw [crumF_t h]; exact in32_orI _ _
theorem crumF_ob {w : Nat → Int} {j : Int} {n : Nat} : orI (crumF w j n) (if crumP w j n then leanOn w n else 0) = crumF w j (n + 1) := by
  cases h : crumP w j n
  · rw [crumF_f h]; exact orI_0 (in32_crumF w j n)
  · rw [crumF_t h]; rfl
theorem ff_dt {p : Nat → Bool} {n q : Nat} {v : Int} (h : q < n) (hv : v = (n : Int) - 1 - q) (hp : p (n - (q + 1)) = true) : v = ff p (n - (q + 1)) n := by rw [ff_t (by omega) hp, hv]; omega
theorem ff_df {p : Nat → Bool} {n q : Nat} (h : q < n) (hp : p (n - (q + 1)) = false) : ff p (n - q) n = ff p (n - (q + 1)) n := by rw [ff_f (k := n - (q + 1)) (by omega) hp, show n - (q + 1) + 1 = n - q by omega]
theorem pc8_nset {p : Nat → Bool} {n : Nat} (hn : n ≤ 8) : pc8 (nset p n) = cntB p n := by
  have key : ∀ m, m ≤ n → cntB (fun i => (nset p n).testBit i) m = cntB p m := fun m hm => cntB_cong (fun k hk => by rw [nset_bit]; simp; omega)
  have up : ∀ m, n ≤ m → cntB (fun i => (nset p n).testBit i) m = cntB (fun i => (nset p n).testBit i) n := by
    intro m hm
    induction m with
    | zero => rw [show n = 0 by omega]
    | succ m ih =>
      by_cases e : n = m + 1
      · rw [e]
      · rw [cntB_f (by rw [nset_bit]; simp; omega), ih (by omega)]
  unfold pc8
  rw [up 8 hn, key n (Nat.le_refl _)]
theorem benF_far (w : Nat → Int) (c : Nat) : ∀ n, (benF w c 1000000 n = benF w c 12 n) ∨ (benF w c 1000000 n = (-1, 1000000) ∧ benF w c 12 n = (-1, 12)) := by
  intro n
  induction n with
  | zero => exact Or.inr ⟨rfl, rfl⟩
  | succ n ih =>
    have e : ∀ z, benF w c z (n + 1) = benS w c n (benF w c z n) := fun _ => rfl
    have hr := ff_rng (p := wdP w n c) (n := 12) (k := (w 4).toNat) rfl
    have hlt : ff (wdP w n c) (w 4).toNat 12 < 12 := by
      rcases hr with h | ⟨j, _, h2, h3, _⟩ <;> omega
    rw [e, e]
    rcases ih with h | ⟨h1, h2⟩
    · rw [h]; exact Or.inl rfl
    · rw [h1, h2]
      unfold benS
      by_cases h0 : 0 ≤ ff (wdP w n c) (w 4).toNat 12
      · rw [if_pos ⟨h0, by show _ < (1000000 : Int); omega⟩, if_pos ⟨h0, by show _ < (12 : Int); omega⟩]; exact Or.inl rfl
      · rw [if_neg (fun h => h0 h.1), if_neg (fun h => h0 h.1)]; exact Or.inr ⟨rfl, rfl⟩
theorem benF_far1 (w : Nat → Int) (c n : Nat) : (benF w c 1000000 n).1 = (benF w c 12 n).1 := by
  rcases benF_far w c n with h | ⟨h1, h2⟩
  · rw [h]
  · rw [h1, h2]
def dlI (x m : Int) : Int := if x < 0 then -1 else x - m
theorem amx_pos {v : Nat → Int} : ∀ {n : Nat}, 0 < n → 0 ≤ amx (fun _ => true) v n
  | 0, h => absurd h (Nat.lt_irrefl _)
  | n + 1, _ => by
    rw [amx_s]
    split
    · omega
    · rename_i h
      have := amx_lt (fun _ => true) v n
      by_cases q : amx (fun _ => true) v n < 0
      · exact absurd ⟨rfl, Or.inl q⟩ h
      · omega
set_option maxHeartbeats 400000 in
theorem C_X12_isFound {d : Nat} {g : Gs} {h : Hc} {P : Po} {M : Nat} {w : Nat → Int} (hG : MdG g M) (hW : h (M + 1) = w) (hf : WF w) {c : Nat} (hc : c < 8) (K : P (.inl (some (vI (bI (foundP w c))))) g h) : Call (d + 2) 0 0 mX12_isFound [vR M, vI ((c : Nat) : Int)] g h P := by
  refine Call_of rfl ⟨by decide +kernel, rfl⟩ (Nat.le_of_ble_eq_true rfl) rfl ?_
  suffices J1 : Run (d + 2) 0 0 mX12_isFound 25 [vR M, vI ((c : Nat) : Int)] [vI (bI (foundP w c))] g h P by
    refine aL0 dX12_isFound_0 ?_
    refine iL1 dX12_isFound_1 ?_
    refine R_iconst_4 dX12_isFound_2 ?_
    refine invV2 rfl dX12_isFound_3 kX12_87 hG.o (Nat.le_of_ble_eq_true rfl) (Nat.zero_le _) (Nat.zero_le _) (C_X12_of hG hW (b := 4) (i := 104 + 7 * c) (by omega) (by omega) (konI ?_))
    have hq2 := hf.st (c := c) (by omega)
    refine R_iconst_1 dX12_isFound_6 ?_
    refine R_icmp_eq dX12_isFound_7 (fun hb7 => ?_) (fun hb7 => ?_)
    · refine R_iconst_1 dX12_isFound_20 ?_
      refine R_goto dX12_isFound_21 ?_
      exact topV (v := bI (foundP w c)) (by first | (rw [bI_t (by simp [foundP]; omega)]) | (rw [bI_f (by simp [foundP]; omega)])) J1
    · refine aL0 dX12_isFound_10 ?_
      refine iL1 dX12_isFound_11 ?_
      refine R_iconst_4 dX12_isFound_12 ?_
      refine invV2 rfl dX12_isFound_13 kX12_87 hG.o (Nat.le_of_ble_eq_true rfl) (Nat.zero_le _) (Nat.zero_le _) (C_X12_of hG hW (b := 4) (i := 104 + 7 * c) (by omega) (by omega) (konI ?_))
      have hq3 := hf.st (c := c) (by omega)
      refine R_iconst_2 dX12_isFound_16 ?_
      refine R_icmp_ne dX12_isFound_17 (fun hb17 => ?_) (fun hb17 => ?_)
      · refine R_iconst_0 dX12_isFound_24 ?_
        exact topV (v := bI (foundP w c)) (by first | (rw [bI_t (by simp [foundP]; omega)]) | (rw [bI_f (by simp [foundP]; omega)])) J1
      · refine R_iconst_1 dX12_isFound_20 ?_
        refine R_goto dX12_isFound_21 ?_
        exact topV (v := bI (foundP w c)) (by first | (rw [bI_t (by simp [foundP]; omega)]) | (rw [bI_f (by simp [foundP]; omega)])) J1
  exact R_zret dX12_isFound_25 rfl (bI01 _) (K)
set_option maxHeartbeats 400000 in
theorem C_X12_leaningOn {d : Nat} {g : Gs} {h : Hc} {P : Po} {M : Nat} {w : Nat → Int} (hG : MdG g M) (hW : h (M + 1) = w) (hf : WF w) {x : Nat} (hx : (x : Int) < w 1) (K : P (.inl (some (vI (leanOn w x)))) g h) : Call (d + 2) 0 0 mX12_leaningOn [vR M, vI ((x : Nat) : Int)] g h P := by
  have hcs := hf.cas
  have hjd := hf.jud
  have hho := hf.hou
  refine Call_of rfl ⟨by decide +kernel, rfl⟩ (Nat.le_of_ble_eq_true rfl) rfl ?_
  refine R_iconst_1 dX12_leaningOn_0 ?_
  refine iL1 dX12_leaningOn_1 ?_
  refine R_ishl dX12_leaningOn_2 ?_
  refine iS2 dX12_leaningOn_3 ?_
  refine iL1 dX12_leaningOn_4 ?_
  refine R_iconst_1 dX12_leaningOn_5 ?_
  refine addV dX12_leaningOn_6 (v := (((x + 1) : Nat) : Int)) (by rw [wid (by omega) (by omega)]; omega) ?_
  refine iS3 dX12_leaningOn_7 ?_
  refine eqI2 (v := leanF w x (x + 1)) ((leanF_c (Nat.le_refl _)).symm) ?_
  have hcs := hf.cas
  have hjd := hf.jud
  have hho := hf.hou
  refine loopN ((w 1).toNat) (fun c => x + 1 ≤ c → Run (d + 2) 0 0 mX12_leaningOn 8 [vR M, vI ((x : Nat) : Int), vI (leanF w x c), vI ((c : Nat) : Int)] [] g h P) (fun c hcnc ihc hxc => ?_) ((x + 1)) (by omega) (Nat.le_refl _)
  refine iL3 dX12_leaningOn_8 ?_
  refine aL0 dX12_leaningOn_9 ?_
  refine invV0 rfl dX12_leaningOn_10 kX12_90 hG.o (Nat.le_of_ble_eq_true rfl) (Nat.zero_le _) (Nat.zero_le _) (C_X12_cases hG hW hf (konI ?_))
  have hcs := hf.cas
  refine R_icmp_ge dX12_leaningOn_13 (fun hb13 => ?_) (fun hb13 => ?_)
  · have e9 : c = (w 1).toNat := by omega
    subst e9
    refine iL2 dX12_leaningOn_55 ?_
    exact R_iret dX12_leaningOn_56 rfl (K)
  · refine iL2 dX12_leaningOn_16 ?_
    suffices J1 : Run (d + 2) 0 0 mX12_leaningOn 47 [vR M, vI ((x : Nat) : Int), vI (leanF w x c), vI ((c : Nat) : Int)] [vI (obI (leanP w x (leanF w x c) c) c), vI (leanF w x c)] g h P by
      refine aL0 dX12_leaningOn_17 ?_
      refine iL3 dX12_leaningOn_18 ?_
      refine R_iconst_3 dX12_leaningOn_19 ?_
      refine invV2 rfl dX12_leaningOn_20 kX12_87 hG.o (Nat.le_of_ble_eq_true rfl) (Nat.zero_le _) (Nat.zero_le _) (C_X12_of hG hW (b := 3) (i := 103 + 7 * c) (by omega) (by omega) (konI ?_))
      have hq2 := hf.on (c := c) (by omega)
      refine R_iconst_m1 dX12_leaningOn_23 ?_
      refine R_icmp_eq dX12_leaningOn_24 (fun hb24 => ?_) (fun hb24 => ?_)
      · refine R_iconst_0 dX12_leaningOn_46 ?_
        exact topV (v := obI (leanP w x (leanF w x c) c) c) (by first | exact obI_f (by simp [leanP]; omega) | exact obI_t (by simp [leanP, hb37]; omega) | exact obI_f (by first | (simp [leanP, hb37]; done) | fail)) J1
      · refine iL2 dX12_leaningOn_27 ?_
        refine aL0 dX12_leaningOn_28 ?_
        refine iL3 dX12_leaningOn_29 ?_
        refine R_iconst_3 dX12_leaningOn_30 ?_
        refine invV2 rfl dX12_leaningOn_31 kX12_87 hG.o (Nat.le_of_ble_eq_true rfl) (Nat.zero_le _) (Nat.zero_le _) (C_X12_of hG hW (b := 3) (i := 103 + 7 * c) (by omega) (by omega) (konI ?_))
        have hq3 := hf.on (c := c) (by omega)
        refine topV (v := (((w (103 + 7 * c)).toNat : Nat) : Int)) (by omega) ?_
        have hlc := hf.lea c (by omega)
        refine invS2 rfl dX12_leaningOn_34 kX12_328 (Nat.le_of_ble_eq_true rfl) (Nat.zero_le _) (Nat.zero_le _) (C_X12_has (by omega) (konI ?_))
        refine R_ifB_eq dX12_leaningOn_37 (fun hb37 => ?_) (fun hb37 => ?_)
        · refine R_iconst_0 dX12_leaningOn_46 ?_
          exact topV (v := obI (leanP w x (leanF w x c) c) c) (by first | exact obI_f (by simp [leanP]; omega) | exact obI_t (by simp [leanP, hb37]; omega) | exact obI_f (by first | (simp [leanP, hb37]; done) | fail)) J1
        · refine R_iconst_1 dX12_leaningOn_40 ?_
          refine iL3 dX12_leaningOn_41 ?_
          refine R_ishl dX12_leaningOn_42 ?_
          refine R_goto dX12_leaningOn_43 ?_
          exact topV (v := obI (leanP w x (leanF w x c) c) c) (by first | exact obI_f (by simp [leanP]; omega) | exact obI_t (by simp [leanP, hb37]; omega) | exact obI_f (by first | (simp [leanP, hb37]; done) | fail)) J1
    refine R_ior dX12_leaningOn_47 ?_
    refine iS2 dX12_leaningOn_48 ?_
    refine iInc3 dX12_leaningOn_49 (winc (by omega)) ?_
    refine R_goto dX12_leaningOn_52 ?_
    exact eqI2 (leanF_ob) (ihc (by omega) (by omega))
set_option maxHeartbeats 400000 in
theorem C_X12_undoneBy {d : Nat} {g : Gs} {h : Hc} {P : Po} {M : Nat} {w : Nat → Int} (hG : MdG g M) (hW : h (M + 1) = w) (hf : WF w) {x : Int} (K : P (.inl (some (vI (crum w x)))) g h) : Call (d + 3) 0 0 mX12_undoneBy [vR M, vI x] g h P := by
  refine Call_of rfl ⟨by decide +kernel, rfl⟩ (Nat.le_of_ble_eq_true rfl) rfl ?_
  refine R_iconst_0 dX12_undoneBy_0 ?_
  refine iS2 dX12_undoneBy_1 ?_
  refine R_iconst_0 dX12_undoneBy_2 ?_
  refine iS3 dX12_undoneBy_3 ?_
  have hcs := hf.cas
  have hjd := hf.jud
  have hho := hf.hou
  refine loopN ((w 1).toNat) (fun c => Run (d + 3) 0 0 mX12_undoneBy 4 [vR M, vI x, vI (crumF w x c), vI ((c : Nat) : Int)] [] g h P) (fun c hcnc ihc => ?_) (0) (Nat.zero_le _)
  refine iL3 dX12_undoneBy_4 ?_
  refine aL0 dX12_undoneBy_5 ?_
  refine invV0 rfl dX12_undoneBy_6 kX12_90 hG.o (Nat.le_of_ble_eq_true rfl) (Nat.zero_le _) (Nat.zero_le _) (C_X12_cases hG hW hf (konI ?_))
  have hcs := hf.cas
  refine R_icmp_ge dX12_undoneBy_9 (fun hb9 => ?_) (fun hb9 => ?_)
  · have e9 : c = (w 1).toNat := by omega
    subst e9
    refine iL2 dX12_undoneBy_64 ?_
    refine aL0 dX12_undoneBy_65 ?_
    refine R_iconst_1 dX12_undoneBy_66 ?_
    refine invV1 rfl dX12_undoneBy_67 kX12_337 hG.o (Nat.le_of_ble_eq_true rfl) (Nat.zero_le _) (Nat.zero_le _) (C_X12_inState hG hW hf (konI ?_))
    refine aL0 dX12_undoneBy_70 ?_
    refine R_iconst_2 dX12_undoneBy_71 ?_
    refine invV1 rfl dX12_undoneBy_72 kX12_337 hG.o (Nat.le_of_ble_eq_true rfl) (Nat.zero_le _) (Nat.zero_le _) (C_X12_inState hG hW hf (konI ?_))
    refine R_ior dX12_undoneBy_75 ?_
    refine R_iand dX12_undoneBy_76 ?_
    exact R_iret dX12_undoneBy_77 rfl (K)
  · refine iL2 dX12_undoneBy_12 ?_
    suffices J1 : Run (d + 3) 0 0 mX12_undoneBy 56 [vR M, vI x, vI (crumF w x c), vI ((c : Nat) : Int)] [vI ((if crumP w x c then leanOn w c else 0)), vI (crumF w x c)] g h P by
      refine aL0 dX12_undoneBy_13 ?_
      refine iL3 dX12_undoneBy_14 ?_
      refine invV1 rfl dX12_undoneBy_15 kX12_331 hG.o (Nat.le_of_ble_eq_true rfl) (Nat.zero_le _) (Nat.zero_le _) (C_X12_isFound hG hW hf (by omega) (konI ?_))
      refine R_ifB_eq dX12_undoneBy_18 (fun hb18 => ?_) (fun hb18 => ?_)
      · refine R_iconst_0 dX12_undoneBy_55 ?_
        exact topV (v := (if crumP w x c then leanOn w c else 0)) (by first | (rw [if_neg (by first | (simp [crumP, hb18]; done) | fail)]; done) | (rw [if_neg (by simp [crumP, hb18]; omega)]; done) | (rw [if_pos (by simp [crumP, hb18]; omega)]; done)) J1
      · refine aL0 dX12_undoneBy_21 ?_
        refine iL3 dX12_undoneBy_22 ?_
        refine R_iconst_5 dX12_undoneBy_23 ?_
        refine invV2 rfl dX12_undoneBy_24 kX12_87 hG.o (Nat.le_of_ble_eq_true rfl) (Nat.zero_le _) (Nat.zero_le _) (C_X12_of hG hW (b := 5) (i := 105 + 7 * c) (by omega) (by omega) (konI ?_))
        have hq2 := hf.by_ (c := c) (by omega)
        refine iL1 dX12_undoneBy_27 ?_
        refine R_icmp_ne dX12_undoneBy_28 (fun hb28 => ?_) (fun hb28 => ?_)
        · refine R_iconst_0 dX12_undoneBy_55 ?_
          exact topV (v := (if crumP w x c then leanOn w c else 0)) (by first | (rw [if_neg (by first | (simp [crumP, hb18]; done) | fail)]; done) | (rw [if_neg (by simp [crumP, hb18]; omega)]; done) | (rw [if_pos (by simp [crumP, hb18]; omega)]; done)) J1
        · refine aL0 dX12_undoneBy_31 ?_
          refine iL3 dX12_undoneBy_32 ?_
          refine R_bipush dX12_undoneBy_33 (by decide) ?_
          refine invV2 rfl dX12_undoneBy_35 kX12_87 hG.o (Nat.le_of_ble_eq_true rfl) (Nat.zero_le _) (Nat.zero_le _) (C_X12_of hG hW (b := 6) (i := 106 + 7 * c) (by omega) (by omega) (konI ?_))
          have hq3 := hf.dy (c := c) (by omega)
          refine aL0 dX12_undoneBy_38 ?_
          refine R_getR dX12_undoneBy_39 fX12_13.r hG.o rfl ?_
          refine R_iconst_5 dX12_undoneBy_42 ?_
          refine ialdN (k := 5) dX12_undoneBy_43 hG.a1 rfl (by decide) ?_
          refine topV (v := w 5) (congrFun hW _) ?_
          have hq4 := hf.day
          refine R_icmp_ne dX12_undoneBy_44 (fun hb44 => ?_) (fun hb44 => ?_)
          · refine R_iconst_0 dX12_undoneBy_55 ?_
            exact topV (v := (if crumP w x c then leanOn w c else 0)) (by first | (rw [if_neg (by first | (simp [crumP, hb18]; done) | fail)]; done) | (rw [if_neg (by simp [crumP, hb18]; omega)]; done) | (rw [if_pos (by simp [crumP, hb18]; omega)]; done)) J1
          · refine aL0 dX12_undoneBy_47 ?_
            refine iL3 dX12_undoneBy_48 ?_
            refine invV1 rfl dX12_undoneBy_49 kX12_334 hG.o (Nat.le_of_ble_eq_true rfl) (Nat.zero_le _) (Nat.zero_le _) (C_X12_leaningOn hG hW hf (by omega) (konI ?_))
            refine R_goto dX12_undoneBy_52 ?_
            exact topV (v := (if crumP w x c then leanOn w c else 0)) (by first | (rw [if_neg (by first | (simp [crumP, hb18]; done) | fail)]; done) | (rw [if_neg (by simp [crumP, hb18]; omega)]; done) | (rw [if_pos (by simp [crumP, hb18]; omega)]; done)) J1
    refine R_ior dX12_undoneBy_56 ?_
    refine iS2 dX12_undoneBy_57 ?_
    refine iInc3 dX12_undoneBy_58 (winc (by omega)) ?_
    refine R_goto dX12_undoneBy_61 ?_
    exact eqI2 (crumF_ob) (ihc (by omega))
set_option maxHeartbeats 400000 in
theorem C_X12_hasNow {d : Nat} {g : Gs} {h : Hc} {P : Po} {M : Nat} {w : Nat → Int} (hG : MdG g M) (hW : h (M + 1) = w) (hf : WF w) {j : Nat} (hj : j < 5) (K : P (.inl (some (vI (waitAt w j (w 4).toNat)))) g h) : Call (d + 3) 0 0 mX12_hasNow [vR M, vI ((j : Nat) : Int)] g h P := by
  have hcs := hf.cas
  have hjd := hf.jud
  have hho := hf.hou
  refine Call_of rfl ⟨by decide +kernel, rfl⟩ (Nat.le_of_ble_eq_true rfl) rfl ?_
  refine aL0 dX12_hasNow_0 ?_
  refine R_getR dX12_hasNow_1 fX12_13.r hG.o rfl ?_
  refine iL1 dX12_hasNow_4 ?_
  refine aL0 dX12_hasNow_5 ?_
  refine R_getR dX12_hasNow_6 fX12_13.r hG.o rfl ?_
  refine R_iconst_4 dX12_hasNow_9 ?_
  refine ialdN (k := 4) dX12_hasNow_10 hG.a1 rfl (by decide) ?_
  refine topV (v := w 4) (congrFun hW _) ?_
  have hq1 := hf.hou
  refine topV (v := (((w 4).toNat : Nat) : Int)) (by omega) ?_
  refine invS2 rfl dX12_hasNow_11 kX12_163 (Nat.le_of_ble_eq_true rfl) (Nat.zero_le _) (Nat.zero_le _) (C_X12_listAt (i := 20 + (12 * j + (w 4).toNat)) (by omega) (by omega) (konI ?_))
  refine ialdN dX12_hasNow_14 hG.a1 rfl (by omega) ?_
  refine topV (v := w (20 + (12 * j + (w 4).toNat))) (congrFun hW _) ?_
  have hpl := hf.pla (12 * j + (w 4).toNat) (by omega)
  refine iS2 dX12_hasNow_15 ?_
  refine iL2 dX12_hasNow_16 ?_
  refine R_iconst_m1 dX12_hasNow_17 ?_
  refine R_icmp_eq dX12_hasNow_18 (fun hb18 => ?_) (fun hb18 => ?_)
  · refine R_iconst_m1 dX12_hasNow_33 ?_
    exact R_iret dX12_hasNow_34 rfl (PeqI K (by unfold waitAt; first | (rw [if_neg (by omega)]; done) | (rw [if_pos (by omega), if_pos (of_decide_eq_true hb26)]; done) | (rw [if_pos (by omega), if_neg (of_decide_eq_false hb26)]; done)))
  · refine aL0 dX12_hasNow_21 ?_
    refine iL2 dX12_hasNow_22 ?_
    refine topV (v := (((w (20 + (12 * j + (w 4).toNat))).toNat : Nat) : Int)) (by omega) ?_
    refine invV1 rfl dX12_hasNow_23 kX12_321 hG.o (Nat.le_of_ble_eq_true rfl) (Nat.zero_le _) (Nat.zero_le _) (C_X12_isWaiting hG hW hf (by omega) (konI ?_))
    refine R_ifB_eq dX12_hasNow_26 (fun hb26 => ?_) (fun hb26 => ?_)
    · refine R_iconst_m1 dX12_hasNow_33 ?_
      exact R_iret dX12_hasNow_34 rfl (PeqI K (by unfold waitAt; first | (rw [if_neg (by omega)]; done) | (rw [if_pos (by omega), if_pos (of_decide_eq_true hb26)]; done) | (rw [if_pos (by omega), if_neg (of_decide_eq_false hb26)]; done)))
    · refine iL2 dX12_hasNow_29 ?_
      refine R_goto dX12_hasNow_30 ?_
      exact R_iret dX12_hasNow_34 rfl (PeqI K (by unfold waitAt; first | (rw [if_neg (by omega)]; done) | (rw [if_pos (by omega), if_pos (of_decide_eq_true hb26)]; done) | (rw [if_pos (by omega), if_neg (of_decide_eq_false hb26)]; done)))
set_option maxHeartbeats 400000 in
theorem C_X12_harshOf {d : Nat} {g : Gs} {h : Hc} {P : Po} {M : Nat} {w : Nat → Int} (hG : MdG g M) (hW : h (M + 1) = w) (hf : WF w) (hl : LawOK w) {j : Nat} (hj : j < 5) (K : ∀ h', Mq M h h' → P (.inl (some (vI (((cntB (harP w j) (w 1).toNat : Nat) : Int))))) g h') : Call (d + 10) 0 0 mX12_harshOf [vR M, vI ((j : Nat) : Int)] g h P := by
  refine Call_of rfl ⟨by decide +kernel, rfl⟩ (Nat.le_of_ble_eq_true rfl) rfl ?_
  have hQ : Mq M h h := Mq.rf _ _
  refine R_iconst_0 dX12_harshOf_0 ?_
  refine iS2 dX12_harshOf_1 ?_
  refine R_iconst_0 dX12_harshOf_2 ?_
  refine iS3 dX12_harshOf_3 ?_
  have hcs := hf.cas
  have hjd := hf.jud
  have hho := hf.hou
  refine loopN ((w 1).toNat) (fun q => ∀ hK1 : Hc, Mq M h hK1 → hK1 (M + 1) = w →  Run (d + 10) 0 0 mX12_harshOf 4 [vR M, vI ((j : Nat) : Int), vI ((cntB (harP w j) q : Nat) : Int), vI ((q : Nat) : Int)] [] g hK1 P) (fun q hcnq ihq hK1 hQ hW  => ?_) (0) (Nat.zero_le _) _ hQ hW
  refine iL3 dX12_harshOf_4 ?_
  refine aL0 dX12_harshOf_5 ?_
  refine invV0 rfl dX12_harshOf_6 kX12_90 hG.o (Nat.le_of_ble_eq_true rfl) (Nat.zero_le _) (Nat.zero_le _) (C_X12_cases hG hW hf (konI ?_))
  have hcs := hf.cas
  refine R_icmp_ge dX12_harshOf_9 (fun hb9 => ?_) (fun hb9 => ?_)
  · have e9 : q = (w 1).toNat := by omega
    subst e9
    refine iL2 dX12_harshOf_43 ?_
    exact R_iret dX12_harshOf_44 rfl (K _ hQ)
  · refine iL2 dX12_harshOf_12 ?_
    suffices J2 : ∀ hJ2 : Hc, Mq M h hJ2 → hJ2 (M + 1) = w → Run (d + 10) 0 0 mX12_harshOf 35 [vR M, vI ((j : Nat) : Int), vI ((cntB (harP w j) q : Nat) : Int), vI ((q : Nat) : Int)] [vI (bI (harP w j q)), vI ((cntB (harP w j) q : Nat) : Int)] g hJ2 P by
      refine aL0 dX12_harshOf_13 ?_
      refine iL3 dX12_harshOf_14 ?_
      refine invV1 rfl dX12_harshOf_15 kX12_321 hG.o (Nat.le_of_ble_eq_true rfl) (Nat.zero_le _) (Nat.zero_le _) (C_X12_isWaiting hG hW hf (by omega) (konI ?_))
      refine R_ifB_eq dX12_harshOf_18 (fun hb18 => ?_) (fun hb18 => ?_)
      · refine R_iconst_0 dX12_harshOf_34 ?_
        exact topV (v := bI (harP w j q)) (by first | (rw [bI_f (by first | (simp only [harP, hb18, Bool.false_and]; done) | fail)]; done) | (rw [bI_f (by first | (simp only [harP, hb18, hb27, Bool.not_true, Bool.and_false]; done) | fail)]; done) | (rw [bI_t (by first | (simp only [harP, hb18, hb27, Bool.not_false, Bool.and_self]; done) | fail)]; done)) (J2 _ hQ hW)
      · refine aL0 dX12_harshOf_21 ?_
        refine iL1 dX12_harshOf_22 ?_
        refine iL3 dX12_harshOf_23 ?_
        refine invV2 rfl dX12_harshOf_24 kX12_375 hG.o (Nat.le_of_ble_eq_true rfl) (Nat.zero_le _) (Nat.zero_le _) (C_X12_frees hG hW hf hl (by omega) (by omega) (fun h3 hx3 => konI ?_))
        replace hQ := hQ.tr hx3
        replace hW := hx3.w hW
        refine R_ifB_ne dX12_harshOf_27 (fun hb27 => ?_) (fun hb27 => ?_)
        · refine R_iconst_0 dX12_harshOf_34 ?_
          exact topV (v := bI (harP w j q)) (by first | (rw [bI_f (by first | (simp only [harP, hb18, Bool.false_and]; done) | fail)]; done) | (rw [bI_f (by first | (simp only [harP, hb18, hb27, Bool.not_true, Bool.and_false]; done) | fail)]; done) | (rw [bI_t (by first | (simp only [harP, hb18, hb27, Bool.not_false, Bool.and_self]; done) | fail)]; done)) (J2 _ hQ hW)
        · refine R_iconst_1 dX12_harshOf_30 ?_
          refine R_goto dX12_harshOf_31 ?_
          exact topV (v := bI (harP w j q)) (by first | (rw [bI_f (by first | (simp only [harP, hb18, Bool.false_and]; done) | fail)]; done) | (rw [bI_f (by first | (simp only [harP, hb18, hb27, Bool.not_true, Bool.and_false]; done) | fail)]; done) | (rw [bI_t (by first | (simp only [harP, hb18, hb27, Bool.not_false, Bool.and_self]; done) | fail)]; done)) (J2 _ hQ hW)
    intro hJ2 hQ hW
    have hcl := cntB_le (harP w j) q
    have hb01 := bI01 (harP w j q)
    refine addV dX12_harshOf_35 (wid (by omega) (by omega)) ?_
    refine iS2 dX12_harshOf_36 ?_
    refine iInc3 dX12_harshOf_37 (winc (by omega)) ?_
    refine R_goto dX12_harshOf_40 ?_
    exact eqI2 (cntB_b) (ihq (by omega) _ hQ hW)
set_option maxHeartbeats 400000 in
theorem C_X12_shareOf {d : Nat} {g : Gs} {h : Hc} {P : Po} {M : Nat} {w : Nat → Int} (hG : MdG g M) (hW : h (M + 1) = w) (hf : WF w) {x : Int} (K : P (.inl (some (vI (shareW w x)))) g h) : Call (d + 3) 0 0 mX12_shareOf [vR M, vI x] g h P := by
  have hcs := hf.cas
  have hjd := hf.jud
  have hho := hf.hou
  refine Call_of rfl ⟨by decide +kernel, rfl⟩ (Nat.le_of_ble_eq_true rfl) rfl ?_
  refine aL0 dX12_shareOf_0 ?_
  refine R_iconst_1 dX12_shareOf_1 ?_
  refine invV1 rfl dX12_shareOf_2 kX12_337 hG.o (Nat.le_of_ble_eq_true rfl) (Nat.zero_le _) (Nat.zero_le _) (C_X12_inState (s := 1) hG hW hf (konI ?_))
  refine topV (v := ((nset (inStP w 1) (w 1).toNat : Nat) : Int)) (bset_nset (by omega)) ?_
  refine invS1 rfl dX12_shareOf_5 kX12_378 (Nat.le_of_ble_eq_true rfl) (Nat.zero_le _) (Nat.zero_le _) (C_J6_bitCount_0f7a4 (nset8 _ (by omega)) (konI ?_))
  refine topV (v := ((cntB (inStP w 1) (w 1).toNat : Nat) : Int)) (by rw [pc8_nset (by omega)]) ?_
  refine iS2 dX12_shareOf_8 ?_
  refine R_iconst_0 dX12_shareOf_9 ?_
  refine iS3 dX12_shareOf_10 ?_
  refine R_iconst_0 dX12_shareOf_11 ?_
  refine iS4 dX12_shareOf_12 ?_
  refine loopN ((w 1).toNat) (fun c => Run (d + 3) 0 0 mX12_shareOf 14 [vR M, vI x, vI ((cntB (inStP w 1) (w 1).toNat : Nat) : Int), vI ((cntB (freedBy w x) c : Nat) : Int), vI ((c : Nat) : Int)] [] g h P) (fun c hcnc ihc => ?_) (0) (Nat.zero_le _)
  refine iL4 dX12_shareOf_14 ?_
  refine aL0 dX12_shareOf_16 ?_
  refine invV0 rfl dX12_shareOf_17 kX12_90 hG.o (Nat.le_of_ble_eq_true rfl) (Nat.zero_le _) (Nat.zero_le _) (C_X12_cases hG hW hf (konI ?_))
  have hcs := hf.cas
  refine R_icmp_ge dX12_shareOf_20 (fun hb20 => ?_) (fun hb20 => ?_)
  · have e9 : c = (w 1).toNat := by omega
    subst e9
    refine iL2 dX12_shareOf_59 ?_
    refine R_if_ne dX12_shareOf_60 (fun hb60 => ?_) (fun hb60 => ?_)
    · have hcl2 := cntB_le (freedBy w x) (w 1).toNat
      have hcl := cntB_le (inStP w 1) (w 1).toNat
      refine R_bipush dX12_shareOf_67 (by decide) ?_
      refine iL3 dX12_shareOf_69 ?_
      refine mulV dX12_shareOf_70 (v := (((100 * cntB (freedBy w x) ((w 1).toNat)) : Nat) : Int)) (by rw [wid (by omega) (by omega)]; omega) ?_
      refine iL2 dX12_shareOf_71 ?_
      refine divV dX12_shareOf_72 (by omega) (v := (100 * cntB (freedBy w x) (w 1).toNat : Int) / (cntB (inStP w 1) (w 1).toNat : Int)) (by rw [show ((100 * cntB (freedBy w x) (w 1).toNat : Nat) : Int) = ((cntB (freedBy w x) (w 1).toNat : Nat) : Int) * 100 by omega]; exact shareDiv (by omega) (by omega)) ?_
      exact R_iret dX12_shareOf_73 rfl (PeqI K (by unfold shareW; (repeat' split) <;> omega))
    · refine R_iconst_0 dX12_shareOf_63 ?_
      refine R_goto dX12_shareOf_64 ?_
      exact R_iret dX12_shareOf_73 rfl (PeqI K (by unfold shareW; (repeat' split) <;> omega))
  · refine iL3 dX12_shareOf_23 ?_
    suffices J1 : Run (d + 3) 0 0 mX12_shareOf 51 [vR M, vI x, vI ((cntB (inStP w 1) (w 1).toNat : Nat) : Int), vI ((cntB (freedBy w x) c : Nat) : Int), vI ((c : Nat) : Int)] [vI (bI (freedBy w x c)), vI ((cntB (freedBy w x) c : Nat) : Int)] g h P by
      refine aL0 dX12_shareOf_24 ?_
      refine iL4 dX12_shareOf_25 ?_
      refine R_iconst_4 dX12_shareOf_27 ?_
      refine invV2 rfl dX12_shareOf_28 kX12_87 hG.o (Nat.le_of_ble_eq_true rfl) (Nat.zero_le _) (Nat.zero_le _) (C_X12_of hG hW (b := 4) (i := 104 + 7 * c) (by omega) (by omega) (konI ?_))
      have hq2 := hf.st (c := c) (by omega)
      refine R_iconst_1 dX12_shareOf_31 ?_
      refine R_icmp_ne dX12_shareOf_32 (fun hb32 => ?_) (fun hb32 => ?_)
      · refine R_iconst_0 dX12_shareOf_50 ?_
        exact topV (v := bI (freedBy w x c)) (by first | (rw [bI_t (by simp [freedBy]; omega)]) | (rw [bI_f (by simp [freedBy]; omega)])) J1
      · refine aL0 dX12_shareOf_35 ?_
        refine iL4 dX12_shareOf_36 ?_
        refine R_iconst_5 dX12_shareOf_38 ?_
        refine invV2 rfl dX12_shareOf_39 kX12_87 hG.o (Nat.le_of_ble_eq_true rfl) (Nat.zero_le _) (Nat.zero_le _) (C_X12_of hG hW (b := 5) (i := 105 + 7 * c) (by omega) (by omega) (konI ?_))
        have hq3 := hf.by_ (c := c) (by omega)
        refine iL1 dX12_shareOf_42 ?_
        refine R_icmp_ne dX12_shareOf_43 (fun hb43 => ?_) (fun hb43 => ?_)
        · refine R_iconst_0 dX12_shareOf_50 ?_
          exact topV (v := bI (freedBy w x c)) (by first | (rw [bI_t (by simp [freedBy]; omega)]) | (rw [bI_f (by simp [freedBy]; omega)])) J1
        · refine R_iconst_1 dX12_shareOf_46 ?_
          refine R_goto dX12_shareOf_47 ?_
          exact topV (v := bI (freedBy w x c)) (by first | (rw [bI_t (by simp [freedBy]; omega)]) | (rw [bI_f (by simp [freedBy]; omega)])) J1
    have hcl := cntB_le (freedBy w x) c
    have hb01 := bI01 (freedBy w x c)
    refine addV dX12_shareOf_51 (wid (by omega) (by omega)) ?_
    refine iS3 dX12_shareOf_52 ?_
    refine iInc4 dX12_shareOf_53 (winc (by omega)) ?_
    refine R_goto dX12_shareOf_56 ?_
    exact eqI3 (cntB_b) (ihc (by omega))
set_option maxHeartbeats 400000 in
theorem C_X12_freeHours {d : Nat} {g : Gs} {h : Hc} {P : Po} {M : Nat} {w : Nat → Int} (hG : MdG g M) (hW : h (M + 1) = w) (hf : WF w) {j : Nat} (hj : j < 5) (K : P (.inl (some (vI (freeHrs w j)))) g h) : Call (d + 1) 0 0 mX12_freeHours [vR M, vI ((j : Nat) : Int)] g h P := by
  have hcs := hf.cas
  have hjd := hf.jud
  have hho := hf.hou
  refine Call_of rfl ⟨by decide +kernel, rfl⟩ (Nat.le_of_ble_eq_true rfl) rfl ?_
  refine R_iconst_0 dX12_freeHours_0 ?_
  refine iS2 dX12_freeHours_1 ?_
  refine R_iconst_0 dX12_freeHours_2 ?_
  refine iS3 dX12_freeHours_3 ?_
  refine loopN (12) (fun c => Run (d + 1) 0 0 mX12_freeHours 4 [vR M, vI ((j : Nat) : Int), vI (bset (freeHP w j) c), vI ((c : Nat) : Int)] [] g h P) (fun c hcnc ihc => ?_) (0) (Nat.zero_le _)
  refine iL3 dX12_freeHours_4 ?_
  refine R_bipush dX12_freeHours_5 (by decide) ?_
  refine R_icmp_ge dX12_freeHours_7 (fun hb7 => ?_) (fun hb7 => ?_)
  · have e9 : c = 12 := by omega
    subst e9
    refine iL2 dX12_freeHours_40 ?_
    exact R_iret dX12_freeHours_41 rfl (K)
  · refine iL2 dX12_freeHours_10 ?_
    suffices J1 : Run (d + 1) 0 0 mX12_freeHours 32 [vR M, vI ((j : Nat) : Int), vI (bset (freeHP w j) c), vI ((c : Nat) : Int)] [vI (obI (freeHP w j c) c), vI (bset (freeHP w j) c)] g h P by
      refine aL0 dX12_freeHours_11 ?_
      refine R_getR dX12_freeHours_12 fX12_13.r hG.o rfl ?_
      refine iL1 dX12_freeHours_15 ?_
      refine iL3 dX12_freeHours_16 ?_
      refine invS2 rfl dX12_freeHours_17 kX12_163 (Nat.le_of_ble_eq_true rfl) (Nat.zero_le _) (Nat.zero_le _) (C_X12_listAt (i := 20 + (12 * j + c)) (by omega) (by omega) (konI ?_))
      refine ialdN dX12_freeHours_20 hG.a1 rfl (by omega) ?_
      refine topV (v := w (20 + (12 * j + c))) (congrFun hW _) ?_
      have hpl := hf.pla (12 * j + c) (by omega)
      refine R_iconst_m1 dX12_freeHours_21 ?_
      refine R_icmp_ne dX12_freeHours_22 (fun hb22 => ?_) (fun hb22 => ?_)
      · refine R_iconst_0 dX12_freeHours_31 ?_
        exact topV (v := obI (freeHP w j c) c) (by first | exact obI_t (by simp [freeHP]; omega) | exact obI_f (by simp [freeHP]; omega)) J1
      · refine R_iconst_1 dX12_freeHours_25 ?_
        refine iL3 dX12_freeHours_26 ?_
        refine R_ishl dX12_freeHours_27 ?_
        refine R_goto dX12_freeHours_28 ?_
        exact topV (v := obI (freeHP w j c) c) (by first | exact obI_t (by simp [freeHP]; omega) | exact obI_f (by simp [freeHP]; omega)) J1
    refine R_ior dX12_freeHours_32 ?_
    refine iS2 dX12_freeHours_33 ?_
    refine iInc3 dX12_freeHours_34 (winc (by omega)) ?_
    refine R_goto dX12_freeHours_37 ?_
    exact eqI2 (bset_ob) (ihc (by omega))
set_option maxHeartbeats 400000 in
theorem C_X12_earlyOf {d : Nat} {g : Gs} {h : Hc} {P : Po} {M : Nat} {w : Nat → Int} (hG : MdG g M) (hW : h (M + 1) = w) (hf : WF w) (hl : LawOK w) {j x : Nat} (hj : j < 5) (hx : (x : Int) < w 1) (K : ∀ h', Mq M h h' → P (.inl (some (vI (ff (wdP w j x) (w 4).toNat 12)))) g h') : Call (d + 8) 0 0 mX12_earlyOf [vR M, vI ((j : Nat) : Int), vI ((x : Nat) : Int)] g h P := by
  refine Call_of rfl ⟨by decide +kernel, rfl⟩ (Nat.le_of_ble_eq_true rfl) rfl ?_
  have hQ : Mq M h h := Mq.rf _ _
  refine R_iconst_m1 dX12_earlyOf_0 ?_
  refine iS3 dX12_earlyOf_1 ?_
  refine R_bipush dX12_earlyOf_2 (by decide) ?_
  refine iS4 dX12_earlyOf_4 ?_
  have hcs := hf.cas
  have hjd := hf.jud
  have hho := hf.hou
  refine eqI3 (v := ff (wdP w j x) (12 - 0) 12) (by rw [ff_end (by omega)]) ?_
  refine eqI4 (v := 11 - ((0 : Nat) : Int)) (by omega) ?_
  refine loopN ((12 - (w 4).toNat)) (fun q => ∀ hK1 : Hc, Mq M h hK1 → hK1 (M + 1) = w →  Run (d + 8) 0 0 mX12_earlyOf 6 [vR M, vI ((j : Nat) : Int), vI ((x : Nat) : Int), vI (ff (wdP w j x) (12 - q) 12), vI (11 - (q : Int))] [] g hK1 P) (fun q hcnq ihq hK1 hQ hW  => ?_) (0) (Nat.zero_le _) _ hQ hW
  refine iL4 dX12_earlyOf_6 ?_
  refine aL0 dX12_earlyOf_8 ?_
  refine R_getR dX12_earlyOf_9 fX12_13.r hG.o rfl ?_
  refine R_iconst_4 dX12_earlyOf_12 ?_
  refine ialdN (k := 4) dX12_earlyOf_13 hG.a1 rfl (by decide) ?_
  refine topV (v := w 4) (congrFun hW _) ?_
  have hq2 := hf.hou
  refine R_icmp_lt dX12_earlyOf_14 (fun hb14 => ?_) (fun hb14 => ?_)
  · have e9 : 12 - q = (w 4).toNat := by omega
    rw [e9]
    refine iL3 dX12_earlyOf_41 ?_
    exact R_iret dX12_earlyOf_42 rfl (K _ hQ)
  · refine aL0 dX12_earlyOf_17 ?_
    refine iL1 dX12_earlyOf_18 ?_
    refine iL2 dX12_earlyOf_19 ?_
    refine iL4 dX12_earlyOf_20 ?_
    refine invV3 rfl dX12_earlyOf_22 kX12_398 hG.o (Nat.le_of_ble_eq_true rfl) (Nat.zero_le _) (Nat.zero_le _) (C_X12_wouldBe hG hW hf hl (by omega) (by omega) (by omega) (fun h3 hx3 => konI ?_))
    replace hQ := hQ.tr hx3
    replace hW := hx3.w hW
    refine R_if_lt dX12_earlyOf_25 (fun hb25 => ?_) (fun hb25 => ?_)
    · refine iL3 dX12_earlyOf_33 ?_
      refine iS3 dX12_earlyOf_34 ?_
      refine iInc4 dX12_earlyOf_35 (wid (by omega) (by omega)) ?_
      refine R_goto dX12_earlyOf_38 ?_
      exact eqI3 (by first | exact ff_dt (p := wdP w j x) (n := 12) (by omega) (by omega) (by unfold wdP; rw [show ((12 - (q + 1) : Nat) : Int) = 11 - (q : Int) by omega]; exact decide_eq_true (by omega)) | exact ff_df (p := wdP w j x) (n := 12) (by omega) (by unfold wdP; rw [show ((12 - (q + 1) : Nat) : Int) = 11 - (q : Int) by omega]; exact decide_eq_false (by omega))) (eqI4 (by omega) (ihq (by omega) _ hQ hW))
    · refine iL4 dX12_earlyOf_28 ?_
      refine R_goto dX12_earlyOf_30 ?_
      refine iS3 dX12_earlyOf_34 ?_
      refine iInc4 dX12_earlyOf_35 (wid (by omega) (by omega)) ?_
      refine R_goto dX12_earlyOf_38 ?_
      exact eqI3 (by first | exact ff_dt (p := wdP w j x) (n := 12) (by omega) (by omega) (by unfold wdP; rw [show ((12 - (q + 1) : Nat) : Int) = 11 - (q : Int) by omega]; exact decide_eq_true (by omega)) | exact ff_df (p := wdP w j x) (n := 12) (by omega) (by unfold wdP; rw [show ((12 - (q + 1) : Nat) : Int) = 11 - (q : Int) by omega]; exact decide_eq_false (by omega))) (eqI4 (by omega) (ihq (by omega) _ hQ hW))
set_option maxHeartbeats 400000 in
theorem C_X12_benchOf {d : Nat} {g : Gs} {h : Hc} {P : Po} {M : Nat} {w : Nat → Int} (hG : MdG g M) (hW : h (M + 1) = w) (hf : WF w) (hl : LawOK w) {x : Nat} (hx : (x : Int) < w 1) (K : ∀ h', Mq M h h' → P (.inl (some (vI ((benF w x 12 (w 0).toNat).1)))) g h') : Call (d + 9) 0 0 mX12_benchOf [vR M, vI ((x : Nat) : Int)] g h P := by
  refine Call_of rfl ⟨by decide +kernel, rfl⟩ (Nat.le_of_ble_eq_true rfl) rfl ?_
  have hQ : Mq M h h := Mq.rf _ _
  refine R_iconst_m1 dX12_benchOf_0 ?_
  refine iS2 dX12_benchOf_1 ?_
  refine R_ldcI dX12_benchOf_2 qX12_147 (by decide) ?_
  refine iS3 dX12_benchOf_4 ?_
  refine R_iconst_0 dX12_benchOf_5 ?_
  refine iS4 dX12_benchOf_6 ?_
  have hcs := hf.cas
  have hjd := hf.jud
  have hho := hf.hou
  refine loopN ((w 0).toNat) (fun q => ∀ hK1 : Hc, Mq M h hK1 → hK1 (M + 1) = w → ∀ v5 : AV,  Run (d + 9) 0 0 mX12_benchOf 8 [vR M, vI ((x : Nat) : Int), vI ((benF w x 1000000 q).1), vI ((benF w x 1000000 q).2), vI ((q : Nat) : Int), v5] [] g hK1 P) (fun q hcnq ihq hK1 hQ hW v5 => ?_) (0) (Nat.zero_le _) _ hQ hW vU
  refine iL4 dX12_benchOf_8 ?_
  refine aL0 dX12_benchOf_10 ?_
  refine invV0 rfl dX12_benchOf_11 kX12_98 hG.o (Nat.le_of_ble_eq_true rfl) (Nat.zero_le _) (Nat.zero_le _) (C_X12_judges hG hW hf (konI ?_))
  have hjd := hf.jud
  refine R_icmp_ge dX12_benchOf_14 (fun hb14 => ?_) (fun hb14 => ?_)
  · have e9 : q = (w 0).toNat := by omega
    subst e9
    refine iL2 dX12_benchOf_53 ?_
    exact R_iret dX12_benchOf_54 rfl (by have := K _ hQ; rw [← benF_far1] at this; exact this)
  · refine aL0 dX12_benchOf_17 ?_
    refine iL4 dX12_benchOf_18 ?_
    refine iL1 dX12_benchOf_20 ?_
    refine invV2 rfl dX12_benchOf_21 kX12_401 hG.o (Nat.le_of_ble_eq_true rfl) (Nat.zero_le _) (Nat.zero_le _) (C_X12_earlyOf hG hW hf hl (by omega) (by omega) (fun h2 hx2 => konI ?_))
    replace hQ := hQ.tr hx2
    replace hW := hx2.w hW
    have hfr := ff_rng (p := wdP w q x) (n := 12) (k := (w 4).toNat) rfl
    have hfm : -1 ≤ ff (wdP w q x) (w 4).toNat 12 := by rcases hfr with e8 | ⟨j8, _, _, e8, _⟩ <;> omega
    refine iS5 dX12_benchOf_24 ?_
    refine iL5 dX12_benchOf_26 ?_
    refine R_iconst_m1 dX12_benchOf_28 ?_
    refine R_icmp_eq dX12_benchOf_29 (fun hb29 => ?_) (fun hb29 => ?_)
    · refine iInc4 dX12_benchOf_47 (winc (by omega)) ?_
      refine R_goto dX12_benchOf_50 ?_
      exact eqI2 (by rw [benF_s]; unfold benS; first | (rw [if_pos (by omega)]; done) | (rw [if_neg (by omega)]; done)) (eqI3 (by rw [benF_s]; unfold benS; first | (rw [if_pos (by omega)]; done) | (rw [if_neg (by omega)]; done)) (ihq (by omega) _ hQ hW _))
    · refine iL5 dX12_benchOf_32 ?_
      refine iL3 dX12_benchOf_34 ?_
      refine R_icmp_lt dX12_benchOf_35 (fun hb35 => ?_) (fun hb35 => ?_)
      · refine iL4 dX12_benchOf_41 ?_
        refine iS2 dX12_benchOf_43 ?_
        refine iL5 dX12_benchOf_44 ?_
        refine iS3 dX12_benchOf_46 ?_
        refine iInc4 dX12_benchOf_47 (winc (by omega)) ?_
        refine R_goto dX12_benchOf_50 ?_
        exact eqI2 (by rw [benF_s]; unfold benS; first | (rw [if_pos (by omega)]; done) | (rw [if_neg (by omega)]; done)) (eqI3 (by rw [benF_s]; unfold benS; first | (rw [if_pos (by omega)]; done) | (rw [if_neg (by omega)]; done)) (ihq (by omega) _ hQ hW _))
      · refine R_goto dX12_benchOf_38 ?_
        refine iInc4 dX12_benchOf_47 (winc (by omega)) ?_
        refine R_goto dX12_benchOf_50 ?_
        exact eqI2 (by rw [benF_s]; unfold benS; first | (rw [if_pos (by omega)]; done) | (rw [if_neg (by omega)]; done)) (eqI3 (by rw [benF_s]; unfold benS; first | (rw [if_pos (by omega)]; done) | (rw [if_neg (by omega)]; done)) (ihq (by omega) _ hQ hW _))
set_option maxHeartbeats 400000 in
theorem C_X12_delayOf {d : Nat} {g : Gs} {h : Hc} {P : Po} {M : Nat} {w : Nat → Int} (hG : MdG g M) (hW : h (M + 1) = w) (hf : WF w) (hl : LawOK w) {x : Nat} (hx : (x : Int) < w 1) (K : ∀ h', Mq M h h' → P (.inl (some (vI (delW w x)))) g h') : Call (d + 8) 0 0 mX12_delayOf [vR M, vI ((x : Nat) : Int)] g h P := by
  have hcs := hf.cas
  have hjd := hf.jud
  have hho := hf.hou
  refine Call_of rfl ⟨by decide +kernel, rfl⟩ (Nat.le_of_ble_eq_true rfl) rfl ?_
  have hQ : Mq M h h := Mq.rf _ _
  refine aL0 dX12_delayOf_0 ?_
  refine iL1 dX12_delayOf_1 ?_
  refine invV1 rfl dX12_delayOf_2 kX12_94 hG.o (Nat.le_of_ble_eq_true rfl) (Nat.zero_le _) (Nat.zero_le _) (C_X12_placeOf hG hW hf (by omega) (konI ?_))
  have hpr : placeOf w (x : Int) = -1 ∨ (0 ≤ placeOf w (x : Int) ∧ placeOf w (x : Int) < 60) := by rcases placeOf_rng w x with e8 | ⟨p8, h8, e8, _⟩ <;> omega
  refine iS2 dX12_delayOf_5 ?_
  refine aL0 dX12_delayOf_6 ?_
  refine iL1 dX12_delayOf_7 ?_
  refine invV1 rfl dX12_delayOf_8 kX12_321 hG.o (Nat.le_of_ble_eq_true rfl) (Nat.zero_le _) (Nat.zero_le _) (C_X12_isWaiting hG hW hf (by omega) (konI ?_))
  refine R_ifB_eq dX12_delayOf_11 (fun hb11 => ?_) (fun hb11 => ?_)
  · refine R_iconst_m1 dX12_delayOf_32 ?_
    exact R_iret dX12_delayOf_33 rfl (PeqI (K _ hQ) (by unfold delW; rw [if_pos (by first | omega | (simp at hb11; omega))]))
  · refine iL2 dX12_delayOf_14 ?_
    refine R_iconst_m1 dX12_delayOf_15 ?_
    refine R_icmp_eq dX12_delayOf_16 (fun hb16 => ?_) (fun hb16 => ?_)
    · refine R_iconst_m1 dX12_delayOf_32 ?_
      exact R_iret dX12_delayOf_33 rfl (PeqI (K _ hQ) (by unfold delW; rw [if_pos (by first | omega | (simp at hb11; omega))]))
    · refine iL2 dX12_delayOf_19 ?_
      refine R_bipush dX12_delayOf_20 (by decide) ?_
      refine remV dX12_delayOf_22 (by decide) (remI (by omega) (by omega) (by omega)) ?_
      refine aL0 dX12_delayOf_23 ?_
      refine R_getR dX12_delayOf_24 fX12_13.r hG.o rfl ?_
      refine R_iconst_4 dX12_delayOf_27 ?_
      refine ialdN (k := 4) dX12_delayOf_28 hG.a1 rfl (by decide) ?_
      refine topV (v := w 4) (congrFun hW _) ?_
      have hq1 := hf.hou
      refine R_icmp_ge dX12_delayOf_29 (fun hb29 => ?_) (fun hb29 => ?_)
      · refine R_iconst_m1 dX12_delayOf_34 ?_
        refine iS3 dX12_delayOf_35 ?_
        refine R_bipush dX12_delayOf_36 (by decide) ?_
        refine iS4 dX12_delayOf_38 ?_
        refine eqI3 (v := dlI (ff (wdP w (placeOf w x / 12).toNat x) (12 - 0) 12) (placeOf w x % 12)) (by rw [ff_end (by omega)]; rfl) ?_
        refine eqI4 (v := 11 - ((0 : Nat) : Int)) (by omega) ?_
        refine loopN ((12 - (placeOf w x % 12).toNat)) (fun q => ∀ hK2 : Hc, Mq M h hK2 → hK2 (M + 1) = w →  Run (d + 8) 0 0 mX12_delayOf 40 [vR M, vI ((x : Nat) : Int), vI (placeOf w (x : Int)), vI (dlI (ff (wdP w (placeOf w x / 12).toNat x) (12 - q) 12) (placeOf w x % 12)), vI (11 - (q : Int))] [] g hK2 P) (fun q hcnq ihq hK2 hQ hW  => ?_) (0) (Nat.zero_le _) _ hQ hW
        refine iL4 dX12_delayOf_40 ?_
        refine iL2 dX12_delayOf_42 ?_
        refine R_bipush dX12_delayOf_43 (by decide) ?_
        refine remV dX12_delayOf_45 (by decide) (remI (by omega) (by omega) (by omega)) ?_
        refine R_icmp_lt dX12_delayOf_46 (fun hb46 => ?_) (fun hb46 => ?_)
        · have e9 : 12 - q = (placeOf w x % 12).toNat := by omega
          rw [e9]
          refine iL3 dX12_delayOf_81 ?_
          exact R_iret dX12_delayOf_82 rfl (PeqI (K _ hQ) (by simp at hb11; unfold delW dlI; rw [if_neg (show ¬ (placeOf w x < 0 ∨ placeOf w x % 12 < w 4 ∨ w (104 + 7 * x) ≠ 0) by omega)]))
        · refine aL0 dX12_delayOf_49 ?_
          refine iL2 dX12_delayOf_50 ?_
          refine R_bipush dX12_delayOf_51 (by decide) ?_
          refine divV dX12_delayOf_53 (by decide) (divI (by omega) (by omega) (by omega)) ?_
          refine topV (v := (((placeOf w x / 12).toNat : Nat) : Int)) (by omega) ?_
          refine iL1 dX12_delayOf_54 ?_
          refine iL4 dX12_delayOf_55 ?_
          refine invV3 rfl dX12_delayOf_57 kX12_398 hG.o (Nat.le_of_ble_eq_true rfl) (Nat.zero_le _) (Nat.zero_le _) (C_X12_wouldBe hG hW hf hl (by omega) (by omega) (by omega) (fun h3 hx3 => konI ?_))
          replace hQ := hQ.tr hx3
          replace hW := hx3.w hW
          refine R_if_lt dX12_delayOf_60 (fun hb60 => ?_) (fun hb60 => ?_)
          · refine iL3 dX12_delayOf_73 ?_
            refine iS3 dX12_delayOf_74 ?_
            refine iInc4 dX12_delayOf_75 (wid (by omega) (by omega)) ?_
            refine R_goto dX12_delayOf_78 ?_
            exact eqI3 (by first | (rw [← ff_dt (p := wdP w (placeOf w x / 12).toNat x) (n := 12) (q := q) (v := 11 - (q : Int)) (by omega) (by omega) (by unfold wdP; rw [show ((12 - (q + 1) : Nat) : Int) = 11 - (q : Int) by omega]; exact decide_eq_true (by omega))]; unfold dlI; rw [if_neg (by omega)]) | (rw [← ff_df (p := wdP w (placeOf w x / 12).toNat x) (n := 12) (q := q) (by omega) (by unfold wdP; rw [show ((12 - (q + 1) : Nat) : Int) = 11 - (q : Int) by omega]; exact decide_eq_false (by omega))])) (eqI4 (by omega) (ihq (by omega) _ hQ hW))
          · refine iL4 dX12_delayOf_63 ?_
            refine iL2 dX12_delayOf_65 ?_
            refine R_bipush dX12_delayOf_66 (by decide) ?_
            refine remV dX12_delayOf_68 (by decide) (remI (by omega) (by omega) (by omega)) ?_
            refine subV dX12_delayOf_69 (wid (by omega) (by omega)) ?_
            refine R_goto dX12_delayOf_70 ?_
            refine iS3 dX12_delayOf_74 ?_
            refine iInc4 dX12_delayOf_75 (wid (by omega) (by omega)) ?_
            refine R_goto dX12_delayOf_78 ?_
            exact eqI3 (by first | (rw [← ff_dt (p := wdP w (placeOf w x / 12).toNat x) (n := 12) (q := q) (v := 11 - (q : Int)) (by omega) (by omega) (by unfold wdP; rw [show ((12 - (q + 1) : Nat) : Int) = 11 - (q : Int) by omega]; exact decide_eq_true (by omega))]; unfold dlI; rw [if_neg (by omega)]) | (rw [← ff_df (p := wdP w (placeOf w x / 12).toNat x) (n := 12) (q := q) (by omega) (by unfold wdP; rw [show ((12 - (q + 1) : Nat) : Int) = 11 - (q : Int) by omega]; exact decide_eq_false (by omega))])) (eqI4 (by omega) (ihq (by omega) _ hQ hW))
      · refine R_iconst_m1 dX12_delayOf_32 ?_
        exact R_iret dX12_delayOf_33 rfl (PeqI (K _ hQ) (by unfold delW; rw [if_pos (by first | omega | (simp at hb11; omega))]))
theorem shaF_0 {w : Nat → Int} (h : w 0 = 0) : ∀ n, (shaF w n).1 = -1
  | 0 => rfl
  | n + 1 => by
    rw [shaF_s]
    unfold shaS
    split
    · show gaL w _ = -1
      unfold gaL
      rw [h]
      rfl
    · exact shaF_0 h n
set_option maxHeartbeats 400000 in
theorem C_X12_sharedTo {d : Nat} {g : Gs} {h : Hc} {P : Po} {M : Nat} {w : Nat → Int} (hG : MdG g M) (hW : h (M + 1) = w) (hf : WF w) {x : Nat} (hx : (x : Int) < w 1) (K : ∀ h', Mz M h h' → P (.inl (some (vI (shaW w x)))) g h') : Call (d + 3) 0 0 mX12_sharedTo [vR M, vI ((x : Nat) : Int)] g h P := by
  have hcs := hf.cas
  have hjd := hf.jud
  have hho := hf.hou
  refine Call_of rfl ⟨by decide +kernel, rfl⟩ (Nat.le_of_ble_eq_true rfl) rfl ?_
  have hQ : Mz M h h := Mz.rf _ _
  refine aL0 dX12_sharedTo_0 ?_
  refine iL1 dX12_sharedTo_1 ?_
  refine invV1 rfl dX12_sharedTo_2 kX12_321 hG.o (Nat.le_of_ble_eq_true rfl) (Nat.zero_le _) (Nat.zero_le _) (C_X12_isWaiting hG hW hf (by omega) (konI ?_))
  refine R_ifB_eq dX12_sharedTo_5 (fun hb5 => ?_) (fun hb5 => ?_)
  · refine R_iconst_m1 dX12_sharedTo_15 ?_
    exact R_iret dX12_sharedTo_16 rfl (PeqI (K _ hQ) (by unfold shaW; first | (rw [if_neg (by simpa using hb5)]; done) | (rw [if_pos (by simpa using hb5)]; exact (shaF_0 (by omega) _).symm)))
  · refine aL0 dX12_sharedTo_8 ?_
    refine invV0 rfl dX12_sharedTo_9 kX12_98 hG.o (Nat.le_of_ble_eq_true rfl) (Nat.zero_le _) (Nat.zero_le _) (C_X12_judges hG hW hf (konI ?_))
    have hjd := hf.jud
    refine R_if_ne dX12_sharedTo_12 (fun hb12 => ?_) (fun hb12 => ?_)
    · refine R_iconst_0 dX12_sharedTo_17 ?_
      refine iS2 dX12_sharedTo_18 ?_
      refine loopN (5) (fun c => ∀ hK1 : Hc, Mz M h hK1 → hK1 (M + 1) = w → (∀ i, i < c → hK1 (M + 10) i = 0) →  Run (d + 3) 0 0 mX12_sharedTo 19 [vR M, vI ((x : Nat) : Int), vI ((c : Nat) : Int), vU, vU] [] g hK1 P) (fun c hcnc ihc hK1 hQ hW hzK => ?_) (0) (Nat.zero_le _) _ hQ hW (fun i hi => absurd hi (Nat.not_lt_zero _))
      refine iL2 dX12_sharedTo_19 ?_
      refine R_iconst_5 dX12_sharedTo_20 ?_
      refine R_icmp_ge dX12_sharedTo_21 (fun hb21 => ?_) (fun hb21 => ?_)
      · have e9 : c = 5 := by omega
        subst e9
        refine R_iconst_m1 dX12_sharedTo_37 ?_
        refine iS2 dX12_sharedTo_38 ?_
        refine R_iconst_0 dX12_sharedTo_39 ?_
        refine iS3 dX12_sharedTo_40 ?_
        refine loopN ((x + 1)) (fun q => ∀ hK2 : Hc, Mz M h hK2 → hK2 (M + 1) = w → (∀ j, j < 5 → hK2 (M + 10) j = (shaF w q).2 j) → ∀ v4 : AV,  Run (d + 3) 0 0 mX12_sharedTo 41 [vR M, vI ((x : Nat) : Int), vI ((shaF w q).1), vI ((q : Nat) : Int), v4] [] g hK2 P) (fun q hcnq ihq hK2 hQ hW hgK v4 => ?_) (0) (Nat.zero_le _) _ hQ hW (fun j hj => hzK j hj) _
        have hsr := shaF_rng hf q (by omega)
        refine iL3 dX12_sharedTo_41 ?_
        refine iL1 dX12_sharedTo_42 ?_
        refine R_icmp_gt dX12_sharedTo_43 (fun hb43 => ?_) (fun hb43 => ?_)
        · have e9 : q = x + 1 := by omega
          subst e9
          refine iL2 dX12_sharedTo_121 ?_
          exact R_iret dX12_sharedTo_122 rfl (PeqI (K _ hQ) (by unfold shaW; rw [if_pos (by simpa using hb5)]))
        · refine aL0 dX12_sharedTo_46 ?_
          refine iL3 dX12_sharedTo_47 ?_
          refine invV1 rfl dX12_sharedTo_48 kX12_321 hG.o (Nat.le_of_ble_eq_true rfl) (Nat.zero_le _) (Nat.zero_le _) (C_X12_isWaiting hG hW hf (by omega) (konI ?_))
          refine R_ifB_ne dX12_sharedTo_51 (fun hb51 => ?_) (fun hb51 => ?_)
          · refine R_iconst_0 dX12_sharedTo_57 ?_
            refine iS2 dX12_sharedTo_58 ?_
            refine R_iconst_1 dX12_sharedTo_59 ?_
            refine iS4 dX12_sharedTo_60 ?_
            refine loopN ((w 0).toNat) (fun r => 1 ≤ r → Run (d + 3) 0 0 mX12_sharedTo 62 [vR M, vI ((x : Nat) : Int), vI (amx (fun _ => true) (fun j => - (shaF w q).2 j) r), vI ((q : Nat) : Int), vI ((r : Nat) : Int)] [] g hK2 P) (fun r hcnr ihr hr1 => ?_) (1) (by omega) (Nat.le_refl _)
            have har := amx_lt (fun _ => true) (fun j => - (shaF w q).2 j) r
            have hap := amx_pos (v := fun j => - (shaF w q).2 j) (n := r) (by omega)
            refine iL4 dX12_sharedTo_62 ?_
            refine aL0 dX12_sharedTo_64 ?_
            refine invV0 rfl dX12_sharedTo_65 kX12_98 hG.o (Nat.le_of_ble_eq_true rfl) (Nat.zero_le _) (Nat.zero_le _) (C_X12_judges hG hW hf (konI ?_))
            have hjd := hf.jud
            refine R_icmp_ge dX12_sharedTo_68 (fun hb68 => ?_) (fun hb68 => ?_)
            · have e9 : r = (w 0).toNat := by omega
              subst e9
              refine eqI2 (v := gaL w (shaF w q).2) rfl ?_
              have hap2 : 0 ≤ gaL w (shaF w q).2 := hap
              have har2 : gaL w (shaF w q).2 < (w 0).toNat := har.2
              have hgg := hsr.1 (gaL w (shaF w q).2).toNat (by omega)
              refine eqI2 (v := (((gaL w (shaF w q).2).toNat : Nat) : Int)) (by omega) ?_
              refine aL0 dX12_sharedTo_100 ?_
              refine R_getR dX12_sharedTo_101 fX12_45.r hG.o rfl ?_
              refine iL2 dX12_sharedTo_104 ?_
              refine dup2IR dX12_sharedTo_105 ?_
              refine ialdN dX12_sharedTo_106 hG.a10 rfl (by omega) ?_
              refine topV (v := (shaF w q).2 ((gaL w (shaF w q).2).toNat)) (hgK ((gaL w (shaF w q).2).toNat) (by omega)) ?_
              refine aL0 dX12_sharedTo_107 ?_
              refine iL3 dX12_sharedTo_108 ?_
              refine R_iconst_1 dX12_sharedTo_109 ?_
              refine invV2 rfl dX12_sharedTo_110 kX12_87 hG.o (Nat.le_of_ble_eq_true rfl) (Nat.zero_le _) (Nat.zero_le _) (C_X12_of hG hW (b := 1) (i := 101 + 7 * q) (by omega) (by omega) (konI ?_))
              have hq3 := hf.gr (c := q) (by omega)
              refine addV dX12_sharedTo_113 (wid (by omega) (by omega)) ?_
              refine iastN dX12_sharedTo_114 hG.a10 rfl (by omega) ?_
              refine storH (fun h4 e4 => ?_)
              have hQ0 := hQ
              have hW0 := hW
              replace hQ : Mz M h h4 := by rw [e4]; exact hQ0.arr (by omega)
              replace hW : h4 (M + 1) = w := by rw [e4, updH_a (by omega)]; exact hW0
              refine iInc3 dX12_sharedTo_115 (winc (by omega)) ?_
              refine R_goto dX12_sharedTo_118 ?_
              exact eqI2 (by rw [shaF_s]; unfold shaS; first | (rw [if_pos (by simpa using hb51)]; dsimp only; omega) | (rw [if_neg (by simpa using hb51)]; done)) (ihq (by omega) _ hQ hW (fun j hj => by rw [e4, updH_r, shaF_s]; unfold shaS; rw [if_pos (by simpa using hb51)]; dsimp only; rw [if_pos (by omega)]; exact updW_cong (hgK j hj)) _)
            · refine aL0 dX12_sharedTo_71 ?_
              refine R_getR dX12_sharedTo_72 fX12_45.r hG.o rfl ?_
              refine iL4 dX12_sharedTo_75 ?_
              refine ialdN dX12_sharedTo_77 hG.a10 rfl (by omega) ?_
              refine topV (v := (shaF w q).2 r) (hgK r (by omega)) ?_
              refine aL0 dX12_sharedTo_78 ?_
              refine R_getR dX12_sharedTo_79 fX12_45.r hG.o rfl ?_
              refine iL2 dX12_sharedTo_82 ?_
              refine topV (v := (((amx (fun _ => true) (fun j => - (shaF w q).2 j) r).toNat : Nat) : Int)) (by omega) ?_
              refine ialdN dX12_sharedTo_83 hG.a10 rfl (by omega) ?_
              refine topV (v := (shaF w q).2 ((amx (fun _ => true) (fun j => - (shaF w q).2 j) r).toNat)) (hgK ((amx (fun _ => true) (fun j => - (shaF w q).2 j) r).toNat) (by omega)) ?_
              refine R_icmp_ge dX12_sharedTo_84 (fun hb84 => ?_) (fun hb84 => ?_)
              · refine iL2 dX12_sharedTo_92 ?_
                refine iS2 dX12_sharedTo_93 ?_
                refine iInc4 dX12_sharedTo_94 (winc (by omega)) ?_
                refine R_goto dX12_sharedTo_97 ?_
                exact eqI2 (by rw [amx_s]; first | (rw [if_pos ⟨rfl, by omega⟩]; done) | (rw [if_neg (fun h9 => by omega)]; done)) (ihr (by omega) (by omega))
              · refine iL4 dX12_sharedTo_87 ?_
                refine R_goto dX12_sharedTo_89 ?_
                refine iS2 dX12_sharedTo_93 ?_
                refine iInc4 dX12_sharedTo_94 (winc (by omega)) ?_
                refine R_goto dX12_sharedTo_97 ?_
                exact eqI2 (by rw [amx_s]; first | (rw [if_pos ⟨rfl, by omega⟩]; done) | (rw [if_neg (fun h9 => by omega)]; done)) (ihr (by omega) (by omega))
          · refine R_goto dX12_sharedTo_54 ?_
            refine iInc3 dX12_sharedTo_115 (winc (by omega)) ?_
            refine R_goto dX12_sharedTo_118 ?_
            exact eqI2 (by rw [shaF_s]; unfold shaS; first | (rw [if_pos (by simpa using hb51)]; dsimp only; omega) | (rw [if_neg (by simpa using hb51)]; done)) (ihq (by omega) _ hQ hW (fun j hj => by rw [shaF_s]; unfold shaS; rw [if_neg (by simpa using hb51)]; exact hgK j hj) _)
      · refine aL0 dX12_sharedTo_24 ?_
        refine R_getR dX12_sharedTo_25 fX12_45.r hG.o rfl ?_
        refine iL2 dX12_sharedTo_28 ?_
        refine R_iconst_0 dX12_sharedTo_29 ?_
        refine iastN dX12_sharedTo_30 hG.a10 rfl (by omega) ?_
        refine storH (fun h5 e5 => ?_)
        have hQ0 := hQ
        have hW0 := hW
        replace hQ : Mz M h h5 := by rw [e5]; exact hQ0.arr (by omega)
        replace hW : h5 (M + 1) = w := by rw [e5, updH_a (by omega)]; exact hW0
        refine iInc2 dX12_sharedTo_31 (winc (by omega)) ?_
        refine R_goto dX12_sharedTo_34 ?_
        exact ihc (by omega) _ hQ hW (fun i hi => by
            rw [e5]
            by_cases e8 : i = c
            · subst e8; exact updH_s _ _ _ _
            · rw [updH_i e8]; exact hzK i (by omega))
    · refine R_iconst_m1 dX12_sharedTo_15 ?_
      exact R_iret dX12_sharedTo_16 rfl (PeqI (K _ hQ) (by unfold shaW; first | (rw [if_neg (by simpa using hb5)]; done) | (rw [if_pos (by simpa using hb5)]; exact (shaF_0 (by omega) _).symm)))
