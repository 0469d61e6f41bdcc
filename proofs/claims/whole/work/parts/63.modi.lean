set_option maxHeartbeats 400000 in
theorem C_X12_keptBy {d : Nat} {g : Gs} {h : Hc} {P : Po} {M : Nat} (hG : MdG g M) {j : Nat} (K : P (.inl (some (vI (lastB (fun c => decide (h (M + 16) c = (j : Int))) 5)))) g h) : Call (d + 0) 0 0 mX12_keptBy [vR M, vI ((j : Nat) : Int)] g h P := by
  refine Call_of rfl ⟨by decide +kernel, rfl⟩ (Nat.le_of_ble_eq_true rfl) rfl ?_
  refine R_iconst_m1 dX12_keptBy_0 ?_
  refine iS2 dX12_keptBy_1 ?_
  refine R_iconst_0 dX12_keptBy_2 ?_
  refine iS3 dX12_keptBy_3 ?_
  refine loopN (5) (fun q => Run (d + 0) 0 0 mX12_keptBy 4 [vR M, vI ((j : Nat) : Int), vI (lastB (fun c => decide (h (M + 16) c = (j : Int))) q), vI ((q : Nat) : Int)] [] g h P) (fun q hcnq ihq => ?_) (0) (Nat.zero_le _)
  refine iL3 dX12_keptBy_4 ?_
  refine R_iconst_5 dX12_keptBy_5 ?_
  refine R_icmp_ge dX12_keptBy_6 (fun hb6 => ?_) (fun hb6 => ?_)
  · have e9 : q = 5 := by omega
    subst e9
    refine iL2 dX12_keptBy_31 ?_
    exact R_iret dX12_keptBy_32 rfl (K)
  · refine aL0 dX12_keptBy_9 ?_
    refine R_getR dX12_keptBy_10 fX12_64.r hG.o rfl ?_
    refine iL3 dX12_keptBy_13 ?_
    refine ialdN dX12_keptBy_14 hG.a16 rfl (by omega) ?_
    refine topV (v := h (M + 16) q) (rfl) ?_
    refine iL1 dX12_keptBy_15 ?_
    refine R_icmp_ne dX12_keptBy_16 (fun hb16 => ?_) (fun hb16 => ?_)
    · refine iL2 dX12_keptBy_23 ?_
      refine iS2 dX12_keptBy_24 ?_
      refine iInc3 dX12_keptBy_25 (winc (by omega)) ?_
      refine R_goto dX12_keptBy_28 ?_
      exact eqI2 (by first | (rw [lastB_t (decide_eq_true (by omega))]; done) | (rw [lastB_f (decide_eq_false (by omega))]; done)) (ihq (by omega))
    · refine iL3 dX12_keptBy_19 ?_
      refine R_goto dX12_keptBy_20 ?_
      refine iS2 dX12_keptBy_24 ?_
      refine iInc3 dX12_keptBy_25 (winc (by omega)) ?_
      refine R_goto dX12_keptBy_28 ?_
      exact eqI2 (by first | (rw [lastB_t (decide_eq_true (by omega))]; done) | (rw [lastB_f (decide_eq_false (by omega))]; done)) (ihq (by omega))
set_option maxHeartbeats 400000 in
theorem C_X12_isHungrier {d : Nat} {g : Gs} {h : Hc} {P : Po} {M : Nat} {w : Nat → Int} (hG : MdG g M) (hW : h (M + 1) = w) (hf : WF w) {a b : Nat} (ha : a < 5) (hb : b < 5) (K : P (.inl (some (vI (bI (hgB w a b))))) g h) : Call (d + 2) 0 0 mX12_isHungrier [vR M, vI ((a : Nat) : Int), vI ((b : Nat) : Int)] g h P := by
  refine Call_of rfl ⟨by decide +kernel, rfl⟩ (Nat.le_of_ble_eq_true rfl) rfl ?_
  suffices J1 : Run (d + 2) 0 0 mX12_isHungrier 40 [vR M, vI ((a : Nat) : Int), vI ((b : Nat) : Int)] [vI (bI (hgB w a b))] g h P by
    refine aL0 dX12_isHungrier_0 ?_
    refine iL1 dX12_isHungrier_1 ?_
    refine R_iconst_0 dX12_isHungrier_2 ?_
    refine invV2 rfl dX12_isHungrier_3 kX12_280 hG.o (Nat.le_of_ble_eq_true rfl) (Nat.zero_le _) (Nat.zero_le _) (C_X12_ofJudge hG hW (b := 0) (i := 80 + 4 * a) (by omega) (by omega) (konI ?_))
    have hq2 := hf.hu (j := a) (by omega)
    refine aL0 dX12_isHungrier_6 ?_
    refine iL2 dX12_isHungrier_7 ?_
    refine R_iconst_0 dX12_isHungrier_8 ?_
    refine invV2 rfl dX12_isHungrier_9 kX12_280 hG.o (Nat.le_of_ble_eq_true rfl) (Nat.zero_le _) (Nat.zero_le _) (C_X12_ofJudge hG hW (b := 0) (i := 80 + 4 * b) (by omega) (by omega) (konI ?_))
    have hq3 := hf.hu (j := b) (by omega)
    refine R_icmp_gt dX12_isHungrier_12 (fun hb12 => ?_) (fun hb12 => ?_)
    · refine R_iconst_1 dX12_isHungrier_35 ?_
      refine R_goto dX12_isHungrier_36 ?_
      exact topV (v := bI (hgB w a b)) (by first | (rw [bI_t (by simp [hgB]; omega)]; done) | (rw [bI_f (by simp [hgB]; omega)]; done)) J1
    · refine aL0 dX12_isHungrier_15 ?_
      refine iL1 dX12_isHungrier_16 ?_
      refine R_iconst_0 dX12_isHungrier_17 ?_
      refine invV2 rfl dX12_isHungrier_18 kX12_280 hG.o (Nat.le_of_ble_eq_true rfl) (Nat.zero_le _) (Nat.zero_le _) (C_X12_ofJudge hG hW (b := 0) (i := 80 + 4 * a) (by omega) (by omega) (konI ?_))
      have hq4 := hf.hu (j := a) (by omega)
      refine aL0 dX12_isHungrier_21 ?_
      refine iL2 dX12_isHungrier_22 ?_
      refine R_iconst_0 dX12_isHungrier_23 ?_
      refine invV2 rfl dX12_isHungrier_24 kX12_280 hG.o (Nat.le_of_ble_eq_true rfl) (Nat.zero_le _) (Nat.zero_le _) (C_X12_ofJudge hG hW (b := 0) (i := 80 + 4 * b) (by omega) (by omega) (konI ?_))
      have hq5 := hf.hu (j := b) (by omega)
      refine R_icmp_ne dX12_isHungrier_27 (fun hb27 => ?_) (fun hb27 => ?_)
      · refine R_iconst_0 dX12_isHungrier_39 ?_
        exact topV (v := bI (hgB w a b)) (by first | (rw [bI_t (by simp [hgB]; omega)]; done) | (rw [bI_f (by simp [hgB]; omega)]; done)) J1
      · refine iL1 dX12_isHungrier_30 ?_
        refine iL2 dX12_isHungrier_31 ?_
        refine R_icmp_ge dX12_isHungrier_32 (fun hb32 => ?_) (fun hb32 => ?_)
        · refine R_iconst_0 dX12_isHungrier_39 ?_
          exact topV (v := bI (hgB w a b)) (by first | (rw [bI_t (by simp [hgB]; omega)]; done) | (rw [bI_f (by simp [hgB]; omega)]; done)) J1
        · refine R_iconst_1 dX12_isHungrier_35 ?_
          refine R_goto dX12_isHungrier_36 ?_
          exact topV (v := bI (hgB w a b)) (by first | (rw [bI_t (by simp [hgB]; omega)]; done) | (rw [bI_f (by simp [hgB]; omega)]; done)) J1
  exact R_zret dX12_isHungrier_40 rfl (bI01 _) (K)
set_option maxHeartbeats 400000 in
theorem C_X12_asksNext {d : Nat} {g : Gs} {h : Hc} {P : Po} {M : Nat} {w : Nat → Int} (hG : MdG g M) (hW : h (M + 1) = w) (hf : WF w) {j : Nat} (hj : j < 5) (K : P (.inl (some (vI (deaA w j (h (M + 17) j))))) g h) : Call (d + 4) 0 0 mX12_asksNext [vR M, vI ((j : Nat) : Int)] g h P := by
  refine Call_of rfl ⟨by decide +kernel, rfl⟩ (Nat.le_of_ble_eq_true rfl) rfl ?_
  refine R_iconst_m1 dX12_asksNext_0 ?_
  refine iS2 dX12_asksNext_1 ?_
  refine R_iconst_0 dX12_asksNext_2 ?_
  refine iS3 dX12_asksNext_3 ?_
  refine loopN (5) (fun q => Run (d + 4) 0 0 mX12_asksNext 4 [vR M, vI ((j : Nat) : Int), vI (amx (fun k => !tb (h (M + 17) j) k) (payW w j) q), vI ((q : Nat) : Int)] [] g h P) (fun q hcnq ihq => ?_) (0) (Nat.zero_le _)
  have har := amx_lt (fun k => !tb (h (M + 17) j) k) (payW w j) q
  refine iL3 dX12_asksNext_4 ?_
  refine R_iconst_5 dX12_asksNext_5 ?_
  refine R_icmp_ge dX12_asksNext_6 (fun hb6 => ?_) (fun hb6 => ?_)
  · have e9 : q = 5 := by omega
    subst e9
    refine iL2 dX12_asksNext_45 ?_
    exact R_iret dX12_asksNext_46 rfl (K)
  · refine aL0 dX12_asksNext_9 ?_
    refine R_getR dX12_asksNext_10 fX12_67.r hG.o rfl ?_
    refine iL1 dX12_asksNext_13 ?_
    refine ialdN dX12_asksNext_14 hG.a17 rfl (by omega) ?_
    refine topV (v := h (M + 17) j) (rfl) ?_
    refine iL3 dX12_asksNext_15 ?_
    refine invS2 rfl dX12_asksNext_16 kX12_328 (Nat.le_of_ble_eq_true rfl) (Nat.zero_le _) (Nat.zero_le _) (C_X12_has (by omega) (konI ?_))
    refine R_ifB_ne dX12_asksNext_19 (fun hb19 => ?_) (fun hb19 => ?_)
    · refine iInc3 dX12_asksNext_39 (winc (by omega)) ?_
      refine R_goto dX12_asksNext_42 ?_
      exact eqI2 (by rw [amx_s]; first | (rw [if_neg (fun h9 => by rw [hb19] at h9; exact absurd h9.1 (by decide))]; done) | (rw [if_pos ⟨by rw [hb19]; rfl, Or.inl (by omega)⟩]; done) | (rw [if_pos ⟨by rw [hb19]; rfl, by unfold ratP at hb34; simp at hb34; omega⟩]; done) | (rw [if_neg (fun h9 => by unfold ratP at hb34; simp at hb34; omega)]; done)) (ihq (by omega))
    · refine iL2 dX12_asksNext_22 ?_
      refine R_iconst_m1 dX12_asksNext_23 ?_
      refine R_icmp_eq dX12_asksNext_24 (fun hb24 => ?_) (fun hb24 => ?_)
      · refine iL3 dX12_asksNext_37 ?_
        refine iS2 dX12_asksNext_38 ?_
        refine iInc3 dX12_asksNext_39 (winc (by omega)) ?_
        refine R_goto dX12_asksNext_42 ?_
        exact eqI2 (by rw [amx_s]; first | (rw [if_neg (fun h9 => by rw [hb19] at h9; exact absurd h9.1 (by decide))]; done) | (rw [if_pos ⟨by rw [hb19]; rfl, Or.inl (by omega)⟩]; done) | (rw [if_pos ⟨by rw [hb19]; rfl, by unfold ratP at hb34; simp at hb34; omega⟩]; done) | (rw [if_neg (fun h9 => by unfold ratP at hb34; simp at hb34; omega)]; done)) (ihq (by omega))
      · refine aL0 dX12_asksNext_27 ?_
        refine iL1 dX12_asksNext_28 ?_
        refine iL3 dX12_asksNext_29 ?_
        refine iL2 dX12_asksNext_30 ?_
        refine topV (v := (((amx (fun k => !tb (h (M + 17) j) k) (payW w j) q).toNat : Nat) : Int)) (by omega) ?_
        refine invV3 rfl dX12_asksNext_31 kX12_453 hG.o (Nat.le_of_ble_eq_true rfl) (Nat.zero_le _) (Nat.zero_le _) (C_X12_likesMore hG hW hf (by omega) (by omega) (by omega) (konI ?_))
        refine R_ifB_eq dX12_asksNext_34 (fun hb34 => ?_) (fun hb34 => ?_)
        · refine iInc3 dX12_asksNext_39 (winc (by omega)) ?_
          refine R_goto dX12_asksNext_42 ?_
          exact eqI2 (by rw [amx_s]; first | (rw [if_neg (fun h9 => by rw [hb19] at h9; exact absurd h9.1 (by decide))]; done) | (rw [if_pos ⟨by rw [hb19]; rfl, Or.inl (by omega)⟩]; done) | (rw [if_pos ⟨by rw [hb19]; rfl, by unfold ratP at hb34; simp at hb34; omega⟩]; done) | (rw [if_neg (fun h9 => by unfold ratP at hb34; simp at hb34; omega)]; done)) (ihq (by omega))
        · refine iL3 dX12_asksNext_37 ?_
          refine iS2 dX12_asksNext_38 ?_
          refine iInc3 dX12_asksNext_39 (winc (by omega)) ?_
          refine R_goto dX12_asksNext_42 ?_
          exact eqI2 (by rw [amx_s]; first | (rw [if_neg (fun h9 => by rw [hb19] at h9; exact absurd h9.1 (by decide))]; done) | (rw [if_pos ⟨by rw [hb19]; rfl, Or.inl (by omega)⟩]; done) | (rw [if_pos ⟨by rw [hb19]; rfl, by unfold ratP at hb34; simp at hb34; omega⟩]; done) | (rw [if_neg (fun h9 => by unfold ratP at hb34; simp at hb34; omega)]; done)) (ihq (by omega))
theorem lastB_none {p : Nat → Bool} : ∀ {n : Nat}, lastB p n = -1 → ∀ k, k < n → p k = false
  | 0, _, _, h => absurd h (Nat.not_lt_zero _)
  | n + 1, h, k, hk => by
    cases hp : p n
    · rw [lastB_f hp] at h
      by_cases e : k = n
      · rw [e]; exact hp
      · exact lastB_none h k (by omega)
    · rw [lastB_t hp] at h; omega
theorem lastB_some {p : Nat → Bool} : ∀ {n : Nat}, lastB p n ≠ -1 → ∃ k, k < n ∧ lastB p n = (k : Int) ∧ p k = true
  | 0, h => absurd rfl h
  | n + 1, h => by
    cases hp : p n
    · rw [lastB_f hp] at h ⊢
      obtain ⟨k, h1, h2, h3⟩ := lastB_some h
      exact ⟨k, by omega, h2, h3⟩
    · exact ⟨n, Nat.lt_succ_self n, lastB_t hp, hp⟩
theorem updW_self (f : Nat → Int) (i : Nat) : updW f i (f i) = f := by
  funext j
  unfold updW
  split
  · rename_i e; rw [e]
  · rfl
theorem cir_end {w kp rf : Nat → Int} (hf : WF w) (h : DA w kp rf) (hall : ∀ j : Nat, (j : Int) < w 0 → ∃ c, c < 5 ∧ kp c = (j : Int)) {x : Nat} (hx : (x : Int) < w 0) : lastB (fun c => decide (kp c = (x : Int))) 5 = cirG w x (w 0).toNat 0 0 := by
  have hj := hf.jud
  obtain ⟨n, hn, hne⟩ := ser_all hf hx
  have h1 := h.fin hf hall n hn
  obtain ⟨-, a2, -, -⟩ := ser_at hf hn
  have h2 := cirG_at hf hn hne (w 0).toNat 0 (Nat.zero_le _) (by omega)
  rw [show cirG w x (w 0).toNat 0 0 = cS w n from h2]
  by_cases q : lastB (fun c => decide (kp c = (x : Int))) 5 = -1
  · have := lastB_none q (cS w n).toNat (by omega)
    rw [show decide (kp (cS w n).toNat = (x : Int)) = true from decide_eq_true (by rw [h1, hne])] at this
    cases this
  · obtain ⟨k, k1, k2, k3⟩ := lastB_some q
    have h3 := of_decide_eq_true k3
    have h4 := h.uniq k1 (show (cS w n).toNat < 5 by omega) (by rw [h3, h1, hne]) (by rw [h3]; omega) hf
    rw [k2]
    omega
theorem hgB_lt {w : Nat → Int} (hf : WF w) {n m : Nat} (hn : (n : Int) < w 0) (hm : (m : Int) < w 0) (hne : jS w n ≠ jS w m) : (hgB w (jS w n).toNat (jS w m).toNat = true → n < m) ∧ (hgB w (jS w n).toNat (jS w m).toNat = false → m < n) := by
  rcases Nat.lt_trichotomy n m with q | q | q
  · exact ⟨fun _ => q, fun h => absurd h (by rw [ser_hg hf q hm]; decide)⟩
  · exact absurd (by rw [q]) hne
  · exact ⟨fun h => absurd h (by rw [hgB_no (ser_hg hf q hn)]; decide), fun _ => q⟩
theorem mu_win {kp rf : Nat → Int} {i c : Nat} {v : Int} (hi : i < 5) (hc : c < 5) (hr : tb (rf i) c = false) (hk : kp c ≠ -1) (hv : v ≠ -1) : mu (updW kp c v) (updW rf i (orI (rf i) (shlI 1 (c : Int)))) = mu kp rf + 1 := by
  refine mu_ref hi hc hr (fun x hx => ?_)
  by_cases e : x = c
  · subst e; rw [updW_s]; exact ⟨fun h => absurd h hv, fun h => absurd h hk⟩
  · rw [updW_n e]
set_option maxHeartbeats 4000000 in
theorem C_X12_circuitOf {d : Nat} {g : Gs} {h : Hc} {P : Po} {M : Nat} {w : Nat → Int} (hG : MdG g M) (hW : h (M + 1) = w) (hf : WF w) {x : Nat} (hx : (x : Int) < w 0) (K : ∀ h', Mz M h h' → P (.inl (some (vI (cirG w x (w 0).toNat 0 0)))) g h') : Call (d + 5) 0 0 mX12_circuitOf [vR M, vI ((x : Nat) : Int)] g h P := by
  have hcs := hf.cas
  have hjd := hf.jud
  have hho := hf.hou
  refine Call_of rfl ⟨by decide +kernel, rfl⟩ (Nat.le_of_ble_eq_true rfl) rfl ?_
  have hQ : Mz M h h := Mz.rf _ _
  refine R_iconst_0 dX12_circuitOf_0 ?_
  refine iS2 dX12_circuitOf_1 ?_
  refine loopN (5) (fun q => ∀ hK1 : Hc, Mz M h hK1 → hK1 (M + 1) = w → (∀ i, i < q → hK1 (M + 16) i = -1) →  Run (d + 5) 0 0 mX12_circuitOf 2 [vR M, vI ((x : Nat) : Int), vI ((q : Nat) : Int), vU, vU, vU] [] g hK1 P) (fun q hcnq ihq hK1 hQ hW hz16 => ?_) (0) (Nat.zero_le _) _ hQ hW (fun i hi => absurd hi (Nat.not_lt_zero _))
  refine iL2 dX12_circuitOf_2 ?_
  refine R_iconst_5 dX12_circuitOf_3 ?_
  refine R_icmp_ge dX12_circuitOf_4 (fun hb4 => ?_) (fun hb4 => ?_)
  · have e9 : q = 5 := by omega
    subst e9
    refine R_iconst_0 dX12_circuitOf_20 ?_
    refine iS2 dX12_circuitOf_21 ?_
    refine loopN (5) (fun q => ∀ hK2 : Hc, Mz M h hK2 → hK2 (M + 1) = w → (∀ i, i < q → hK2 (M + 17) i = 0) → (∀ i, i < 5 → hK2 (M + 16) i = -1) →  Run (d + 5) 0 0 mX12_circuitOf 22 [vR M, vI ((x : Nat) : Int), vI ((q : Nat) : Int), vU, vU, vU] [] g hK2 P) (fun q hcnq ihq hK2 hQ hW hz17 hz16 => ?_) (0) (Nat.zero_le _) _ hQ hW (fun i hi => absurd hi (Nat.not_lt_zero _)) hz16
    refine iL2 dX12_circuitOf_22 ?_
    refine R_iconst_5 dX12_circuitOf_23 ?_
    refine R_icmp_ge dX12_circuitOf_24 (fun hb24 => ?_) (fun hb24 => ?_)
    · have e9 : q = 5 := by omega
      subst e9
      refine R_iconst_1 dX12_circuitOf_40 ?_
      refine iS2 dX12_circuitOf_41 ?_
      have hD0 : DA w (hK2 (M + 16)) (hK2 (M + 17)) := ⟨fun c hc => Or.inl (hz16 c hc), fun n hn k hk ht => by
          have := (ser_at hf hn).1
          rw [hz17 _ (by omega), tb_0] at ht; cases ht⟩
      refine eqI2 (v := bI true) rfl ?_
      refine loopN 31 (fun q => ∀ (hK : Hc) (ch : Bool) (v3 v4 v5 : AV), Mz M h hK → hK (M + 1) = w → DA w (hK (M + 16)) (hK (M + 17)) → (ch = true → q ≤ mu (hK (M + 16)) (hK (M + 17))) → (ch = false → ∀ j : Nat, (j : Int) < w 0 → ∃ c, c < 5 ∧ hK (M + 16) c = (j : Int)) → Run (d + 5) 0 0 mX12_circuitOf 42 [vR M, vI ((x : Nat) : Int), vI (bI (ch)), v3, v4, v5] [] g hK P) (fun q hcq ihq hK ch v3 v4 v5 hQ hW hD hmu hall => ?_) 0 (Nat.zero_le _) hK2 true _ _ _ hQ hW hD0 (fun _ => Nat.zero_le _) (fun h9 => absurd h9 (by decide))
      refine iL2 dX12_circuitOf_42 ?_
      refine R_ifB_eq dX12_circuitOf_43 (fun hb43 => ?_) (fun hb43 => ?_)
      · have hend := cir_end hf hD (hall hb43) hx
        refine aL0 dX12_circuitOf_175 ?_
        refine iL1 dX12_circuitOf_176 ?_
        refine invV1 rfl dX12_circuitOf_177 kX12_456 hG.o (Nat.le_of_ble_eq_true rfl) (Nat.zero_le _) (Nat.zero_le _) (C_X12_keptBy hG (konI ?_))
        exact R_iret dX12_circuitOf_180 rfl (by have := K _ hQ; rw [← hend] at this; exact this)
      · have hq31 := mu_le (hK (M + 16)) (hK (M + 17))
        have hmq := hmu hb43
        refine R_iconst_0 dX12_circuitOf_46 ?_
        refine iS2 dX12_circuitOf_47 ?_
        refine R_iconst_0 dX12_circuitOf_48 ?_
        refine iS3 dX12_circuitOf_49 ?_
        refine eqI2 (v := bI false) rfl ?_
        refine loopN (w 0).toNat (fun j => ∀ (hI : Hc) (c2 : Bool) (v4 v5 : AV), Mz M h hI → hI (M + 1) = w → DA w (hI (M + 16)) (hI (M + 17)) → q ≤ mu (hI (M + 16)) (hI (M + 17)) → (c2 = true → q + 1 ≤ mu (hI (M + 16)) (hI (M + 17))) → (c2 = false → ∀ i, i < j → ∃ c, c < 5 ∧ hI (M + 16) c = (i : Int)) → Run (d + 5) 0 0 mX12_circuitOf 50 [vR M, vI ((x : Nat) : Int), vI (bI (c2)), vI ((j : Nat) : Int), v4, v5] [] g hI P) (fun j hcj ihj hI c2 v4 v5 hQ hW hD2 hmq2 hmu2 hall2 => ?_) 0 (Nat.zero_le _) hK false _ _ hQ hW hD hmq (fun h9 => absurd h9 (by decide)) (fun _ _ h9 => absurd h9 (Nat.not_lt_zero _))
        refine iL3 dX12_circuitOf_50 ?_
        refine aL0 dX12_circuitOf_51 ?_
        refine invV0 rfl dX12_circuitOf_52 kX12_98 hG.o (Nat.le_of_ble_eq_true rfl) (Nat.zero_le _) (Nat.zero_le _) (C_X12_judges hG hW hf (konI ?_))
        have hjd := hf.jud
        refine R_icmp_ge dX12_circuitOf_55 (fun hb55 => ?_) (fun hb55 => ?_)
        · have e9 : j = (w 0).toNat := by omega
          refine R_goto dX12_circuitOf_172 ?_
          exact ihq (by omega) _ c2 _ _ _ hQ hW hD2 (fun h9 => hmu2 h9) (fun h9 j hj => hall2 h9 j (by omega))
        · refine aL0 dX12_circuitOf_58 ?_
          refine iL3 dX12_circuitOf_59 ?_
          refine invV1 rfl dX12_circuitOf_60 kX12_456 hG.o (Nat.le_of_ble_eq_true rfl) (Nat.zero_le _) (Nat.zero_le _) (C_X12_keptBy hG (konI ?_))
          refine R_iconst_m1 dX12_circuitOf_63 ?_
          refine R_icmp_eq dX12_circuitOf_64 (fun hb64 => ?_) (fun hb64 => ?_)
          · have hno := lastB_none hb64
            have hno2 : ∀ c1, c1 < 5 → hI (M + 16) c1 ≠ (j : Int) := fun c1 hc1 e8 => by have := hno c1 hc1; rw [decide_eq_true e8] at this; cases this
            obtain ⟨n, hn, hne⟩ := ser_all hf (show (j : Int) < w 0 by omega)
            obtain ⟨hc1, hc2, -⟩ := hD2.ask hf hn
            have hjt : (jS w n).toNat = j := by omega
            rw [hjt] at hc1 hc2
            obtain ⟨c, hce⟩ : ∃ c : Nat, deaA w j (hI (M + 17) j) = (c : Int) := ⟨(deaA w j (hI (M + 17) j)).toNat, by omega⟩
            have hcn : deaA w (jS w n).toNat (hI (M + 17) (jS w n).toNat) = (c : Int) := by rw [hjt]; exact hce
            rw [hce] at hc2
            have hc3 : tb (hI (M + 17) j) c = false := hc2
            refine R_iconst_1 dX12_circuitOf_70 ?_
            refine iS2 dX12_circuitOf_71 ?_
            refine aL0 dX12_circuitOf_72 ?_
            refine iL3 dX12_circuitOf_73 ?_
            refine invV1 rfl dX12_circuitOf_74 kX12_459 hG.o (Nat.le_of_ble_eq_true rfl) (Nat.zero_le _) (Nat.zero_le _) (C_X12_asksNext hG hW hf (by omega) (konI ?_))
            refine topV (v := ((c : Nat) : Int)) (hce) ?_
            refine iS4 dX12_circuitOf_77 ?_
            refine aL0 dX12_circuitOf_79 ?_
            refine R_getR dX12_circuitOf_80 fX12_64.r hG.o rfl ?_
            refine iL4 dX12_circuitOf_83 ?_
            refine ialdN dX12_circuitOf_85 hG.a16 rfl (by omega) ?_
            refine topV (v := hI (M + 16) c) (rfl) ?_
            refine R_iconst_m1 dX12_circuitOf_86 ?_
            refine R_icmp_ne dX12_circuitOf_87 (fun hb87 => ?_) (fun hb87 => ?_)
            · obtain ⟨m, hm, hkm, hkd⟩ := (hD2.1 c (by omega)).resolve_left hb87
              have hms := (ser_at hf hm).1
              obtain ⟨i, hie⟩ : ∃ i : Nat, jS w m = (i : Int) := ⟨(jS w m).toNat, by omega⟩
              have hki : hI (M + 16) c = (i : Int) := by rw [hkm, hie]
              have hnm : jS w n ≠ jS w m := fun e8 => hno2 c (by omega) (by rw [hkm, ← e8]; exact hne)
              have hlt := hgB_lt hf hn hm hnm
              rw [hjt, show (jS w m).toNat = i by omega] at hlt
              refine aL0 dX12_circuitOf_94 ?_
              refine iL3 dX12_circuitOf_95 ?_
              refine aL0 dX12_circuitOf_96 ?_
              refine R_getR dX12_circuitOf_97 fX12_64.r hG.o rfl ?_
              refine iL4 dX12_circuitOf_100 ?_
              refine ialdN dX12_circuitOf_102 hG.a16 rfl (by omega) ?_
              refine topV (v := ((i : Nat) : Int)) (hki) ?_
              refine invV2 rfl dX12_circuitOf_103 kX12_462 hG.o (Nat.le_of_ble_eq_true rfl) (Nat.zero_le _) (Nat.zero_le _) (C_X12_isHungrier hG hW hf (by omega) (by omega) (konI ?_))
              refine R_ifB_eq dX12_circuitOf_106 (fun hb106 => ?_) (fun hb106 => ?_)
              · refine iL3 dX12_circuitOf_119 ?_
                refine iS5 dX12_circuitOf_120 ?_
                refine aL0 dX12_circuitOf_122 ?_
                refine R_getR dX12_circuitOf_123 fX12_64.r hG.o rfl ?_
                refine iL4 dX12_circuitOf_126 ?_
                refine iL5 dX12_circuitOf_128 ?_
                refine iL3 dX12_circuitOf_130 ?_
                refine R_icmp_ne dX12_circuitOf_131 (fun hb131 => ?_) (fun hb131 => ?_)
                · exact absurd rfl hb131
                · refine aL0 dX12_circuitOf_134 ?_
                  refine R_getR dX12_circuitOf_135 fX12_64.r hG.o rfl ?_
                  refine iL4 dX12_circuitOf_138 ?_
                  refine ialdN dX12_circuitOf_140 hG.a16 rfl (by omega) ?_
                  refine topV (v := hI (M + 16) c) (rfl) ?_
                  refine R_goto dX12_circuitOf_141 ?_
                  refine iastN dX12_circuitOf_145 hG.a16 rfl (by omega) ?_
                  refine storH (fun h3 e3 => ?_)
                  have hQ0 := hQ
                  have hW0 := hW
                  replace hQ : Mz M h h3 := by rw [e3]; exact hQ0.arr (by omega)
                  replace hW : h3 (M + 1) = w := by rw [e3, updH_a (by omega)]; exact hW0
                  refine iL5 dX12_circuitOf_146 ?_
                  refine R_iconst_m1 dX12_circuitOf_148 ?_
                  refine R_icmp_eq dX12_circuitOf_149 (fun hb149 => ?_) (fun hb149 => ?_)
                  · omega
                  · refine aL0 dX12_circuitOf_152 ?_
                    refine R_getR dX12_circuitOf_153 fX12_67.r hG.o rfl ?_
                    refine iL5 dX12_circuitOf_156 ?_
                    refine dup2IR dX12_circuitOf_158 ?_
                    refine ialdN dX12_circuitOf_159 hG.a17 rfl (by omega) ?_
                    refine R_iconst_1 dX12_circuitOf_160 ?_
                    refine iL4 dX12_circuitOf_161 ?_
                    refine R_ishl dX12_circuitOf_163 ?_
                    refine R_ior dX12_circuitOf_164 ?_
                    refine iastN dX12_circuitOf_165 hG.a17 rfl (by omega) ?_
                    refine storH (fun h4 e4 => ?_)
                    have hQ0 := hQ
                    have hW0 := hW
                    replace hQ : Mz M h h4 := by rw [e4]; exact hQ0.arr (by omega)
                    replace hW : h4 (M + 1) = w := by rw [e4, updH_a (by omega)]; exact hW0
                    refine iInc3 dX12_circuitOf_166 (winc (by omega)) ?_
                    refine R_goto dX12_circuitOf_169 ?_
                    exact ihj (by omega) _ true _ _ hQ hW (by rw [e4, updH_r, updH_a (by omega), e3, updH_r, updH_a (by omega), updW_self]; have := hD2.loseSelf hf hn hm (by omega) hkm (hlt.2 hb106) (fun c1 h1 => by rw [hne]; exact hno2 c1 h1); rw [hjt] at this; exact this) (by have := (show mu (h4 (M + 16)) (h4 (M + 17)) = mu (hI (M + 16)) (hI (M + 17)) + 1 by rw [e4, updH_r, updH_a (by omega), e3, updH_r, updH_a (by omega), updW_self]; exact mu_ref (by omega) (by omega) hc3 (fun x hx => Iff.rfl)); omega) (fun _ => by have := (show mu (h4 (M + 16)) (h4 (M + 17)) = mu (hI (M + 16)) (hI (M + 17)) + 1 by rw [e4, updH_r, updH_a (by omega), e3, updH_r, updH_a (by omega), updW_self]; exact mu_ref (by omega) (by omega) hc3 (fun x hx => Iff.rfl)); omega) (fun h9 => absurd h9 (by decide))
              · refine aL0 dX12_circuitOf_109 ?_
                refine R_getR dX12_circuitOf_110 fX12_64.r hG.o rfl ?_
                refine iL4 dX12_circuitOf_113 ?_
                refine ialdN dX12_circuitOf_115 hG.a16 rfl (by omega) ?_
                refine topV (v := ((i : Nat) : Int)) (hki) ?_
                refine R_goto dX12_circuitOf_116 ?_
                refine iS5 dX12_circuitOf_120 ?_
                refine aL0 dX12_circuitOf_122 ?_
                refine R_getR dX12_circuitOf_123 fX12_64.r hG.o rfl ?_
                refine iL4 dX12_circuitOf_126 ?_
                refine iL5 dX12_circuitOf_128 ?_
                refine iL3 dX12_circuitOf_130 ?_
                refine R_icmp_ne dX12_circuitOf_131 (fun hb131 => ?_) (fun hb131 => ?_)
                · refine iL3 dX12_circuitOf_144 ?_
                  refine iastN dX12_circuitOf_145 hG.a16 rfl (by omega) ?_
                  refine storH (fun h5 e5 => ?_)
                  have hQ0 := hQ
                  have hW0 := hW
                  replace hQ : Mz M h h5 := by rw [e5]; exact hQ0.arr (by omega)
                  replace hW : h5 (M + 1) = w := by rw [e5, updH_a (by omega)]; exact hW0
                  refine iL5 dX12_circuitOf_146 ?_
                  refine R_iconst_m1 dX12_circuitOf_148 ?_
                  refine R_icmp_eq dX12_circuitOf_149 (fun hb149 => ?_) (fun hb149 => ?_)
                  · omega
                  · refine aL0 dX12_circuitOf_152 ?_
                    refine R_getR dX12_circuitOf_153 fX12_67.r hG.o rfl ?_
                    refine iL5 dX12_circuitOf_156 ?_
                    refine dup2IR dX12_circuitOf_158 ?_
                    refine ialdN dX12_circuitOf_159 hG.a17 rfl (by omega) ?_
                    refine R_iconst_1 dX12_circuitOf_160 ?_
                    refine iL4 dX12_circuitOf_161 ?_
                    refine R_ishl dX12_circuitOf_163 ?_
                    refine R_ior dX12_circuitOf_164 ?_
                    refine iastN dX12_circuitOf_165 hG.a17 rfl (by omega) ?_
                    refine storH (fun h6 e6 => ?_)
                    have hQ0 := hQ
                    have hW0 := hW
                    replace hQ : Mz M h h6 := by rw [e6]; exact hQ0.arr (by omega)
                    replace hW : h6 (M + 1) = w := by rw [e6, updH_a (by omega)]; exact hW0
                    refine iInc3 dX12_circuitOf_166 (winc (by omega)) ?_
                    refine R_goto dX12_circuitOf_169 ?_
                    exact ihj (by omega) _ true _ _ hQ hW (by rw [e6, updH_r, updH_a (by omega), e5, updH_r, updH_a (by omega)]; have := hD2.win hf hn hm (by omega) hcn hkm (hlt.1 hb106) (fun c1 h1 => by rw [hne]; exact hno2 c1 h1); rw [hne, show (jS w m).toNat = i by omega] at this; exact this) (by have := (show mu (h6 (M + 16)) (h6 (M + 17)) = mu (hI (M + 16)) (hI (M + 17)) + 1 by rw [e6, updH_r, updH_a (by omega), e5, updH_r, updH_a (by omega)]; exact mu_win (by omega) (by omega) (by have := (hD2.ask hf hm).2.1; rw [hkd, show (jS w m).toNat = i by omega] at this; exact this) hb87 (by omega)); omega) (fun _ => by have := (show mu (h6 (M + 16)) (h6 (M + 17)) = mu (hI (M + 16)) (hI (M + 17)) + 1 by rw [e6, updH_r, updH_a (by omega), e5, updH_r, updH_a (by omega)]; exact mu_win (by omega) (by omega) (by have := (hD2.ask hf hm).2.1; rw [hkd, show (jS w m).toNat = i by omega] at this; exact this) hb87 (by omega)); omega) (fun h9 => absurd h9 (by decide))
                · omega
            · refine R_iconst_m1 dX12_circuitOf_90 ?_
              refine R_goto dX12_circuitOf_91 ?_
              refine iS5 dX12_circuitOf_120 ?_
              refine aL0 dX12_circuitOf_122 ?_
              refine R_getR dX12_circuitOf_123 fX12_64.r hG.o rfl ?_
              refine iL4 dX12_circuitOf_126 ?_
              refine iL5 dX12_circuitOf_128 ?_
              refine iL3 dX12_circuitOf_130 ?_
              refine R_icmp_ne dX12_circuitOf_131 (fun hb131 => ?_) (fun hb131 => ?_)
              · refine iL3 dX12_circuitOf_144 ?_
                refine iastN dX12_circuitOf_145 hG.a16 rfl (by omega) ?_
                refine storH (fun h7 e7 => ?_)
                have hQ0 := hQ
                have hW0 := hW
                replace hQ : Mz M h h7 := by rw [e7]; exact hQ0.arr (by omega)
                replace hW : h7 (M + 1) = w := by rw [e7, updH_a (by omega)]; exact hW0
                refine iL5 dX12_circuitOf_146 ?_
                refine R_iconst_m1 dX12_circuitOf_148 ?_
                refine R_icmp_eq dX12_circuitOf_149 (fun hb149 => ?_) (fun hb149 => ?_)
                · refine iInc3 dX12_circuitOf_166 (winc (by omega)) ?_
                  refine R_goto dX12_circuitOf_169 ?_
                  exact ihj (by omega) _ true _ _ hQ hW (by rw [e7, updH_r, updH_a (by omega), ← hne]; exact hD2.free hn hcn) (by have := (show mu (h7 (M + 16)) (h7 (M + 17)) = mu (hI (M + 16)) (hI (M + 17)) + 1 by rw [e7, updH_r, updH_a (by omega)]; exact mu_free (by omega) hb87 (by omega)); omega) (fun _ => by have := (show mu (h7 (M + 16)) (h7 (M + 17)) = mu (hI (M + 16)) (hI (M + 17)) + 1 by rw [e7, updH_r, updH_a (by omega)]; exact mu_free (by omega) hb87 (by omega)); omega) (fun h9 => absurd h9 (by decide))
                · exact absurd rfl hb149
              · omega
          · refine R_goto dX12_circuitOf_67 ?_
            refine iInc3 dX12_circuitOf_166 (winc (by omega)) ?_
            refine R_goto dX12_circuitOf_169 ?_
            exact ihj (by omega) _ c2 _ _ hQ hW hD2 hmq2 hmu2 (fun h9 i hi => by
                by_cases e8 : i = j
                · obtain ⟨c9, k1, k2, k3⟩ := lastB_some hb64
                  exact ⟨c9, k1, by rw [e8]; exact of_decide_eq_true k3⟩
                · exact hall2 h9 i (by omega))
    · refine aL0 dX12_circuitOf_27 ?_
      refine R_getR dX12_circuitOf_28 fX12_67.r hG.o rfl ?_
      refine iL2 dX12_circuitOf_31 ?_
      refine R_iconst_0 dX12_circuitOf_32 ?_
      refine iastN dX12_circuitOf_33 hG.a17 rfl (by omega) ?_
      refine storH (fun h8 e8 => ?_)
      have hQ0 := hQ
      have hW0 := hW
      replace hQ : Mz M h h8 := by rw [e8]; exact hQ0.arr (by omega)
      replace hW : h8 (M + 1) = w := by rw [e8, updH_a (by omega)]; exact hW0
      refine iInc2 dX12_circuitOf_34 (winc (by omega)) ?_
      refine R_goto dX12_circuitOf_37 ?_
      exact ihq (by omega) _ hQ hW (fun i hi => by
          rw [e8]
          by_cases e8 : i = q
          · subst e8; exact updH_s _ _ _ _
          · rw [updH_i e8]; exact hz17 i (by omega)) (fun i hi => by rw [e8, updH_a (by omega)]; exact hz16 i hi)
  · refine aL0 dX12_circuitOf_7 ?_
    refine R_getR dX12_circuitOf_8 fX12_64.r hG.o rfl ?_
    refine iL2 dX12_circuitOf_11 ?_
    refine R_iconst_m1 dX12_circuitOf_12 ?_
    refine iastN dX12_circuitOf_13 hG.a16 rfl (by omega) ?_
    refine storH (fun h9 e9 => ?_)
    have hQ0 := hQ
    have hW0 := hW
    replace hQ : Mz M h h9 := by rw [e9]; exact hQ0.arr (by omega)
    replace hW : h9 (M + 1) = w := by rw [e9, updH_a (by omega)]; exact hW0
    refine iInc2 dX12_circuitOf_14 (winc (by omega)) ?_
    refine R_goto dX12_circuitOf_17 ?_
    exact ihq (by omega) _ hQ hW (fun i hi => by
        rw [e9]
        by_cases e8 : i = q
        · subst e8; exact updH_s _ _ _ _
        · rw [updH_i e8]; exact hz16 i (by omega))
set_option maxHeartbeats 400000 in
theorem C_X12_judge_8 {d : Nat} {g : Gs} {h : Hc} {P : Po} {M : Nat} {w : Nat → Int} (hG : MdG g M) (hW : h (M + 1) = w) (hf : WF w) (hl : LawOK w) {x : Int} (KE : ¬ (0 ≤ x ∧ x < w 0) → ∀ h', Mp M h h' 1 → P (.inl (some (vI 0))) g h') (K0 : ∀ j : Nat, x = (j : Int) → (j : Int) < w 0 → ∀ h', Mp M h h' 0 → P (.inl (some (vI (cirG w j (w 0).toNat 0 0)))) g h') : Call (d + 11) 0 0 mX12_judge [vR M, vI x, vI 8] g h P := by
  have hcs := hf.cas
  have hjd := hf.jud
  have hho := hf.hou
  refine Call_of rfl ⟨by decide +kernel, rfl⟩ (Nat.le_of_ble_eq_true rfl) rfl ?_
  refine aL0 dX12_judge_0 ?_
  refine R_iconst_0 dX12_judge_1 ?_
  refine R_putI dX12_judge_2 fX12_3 hG.o ?_
  refine storH (fun h1 e1 => ?_)
  have hP : Mp M h h1 0 := by rw [e1]; exact Mp.i h M
  replace hW : h1 (M + 1) = w := hP.w hW
  have hQ : Mz M h1 h1 := Mz.rf _ _
  refine aL0 dX12_judge_5 ?_
  refine aL0 dX12_judge_6 ?_
  refine iL1 dX12_judge_7 ?_
  refine invV1 rfl dX12_judge_8 kX12_383 hG.o (Nat.le_of_ble_eq_true rfl) (Nat.zero_le _) (Nat.zero_le _) (C_X12_noJudge hG hW hf (konI ?_))
  refine R_iconst_1 dX12_judge_11 ?_
  refine invV2 rfl dX12_judge_12 kX12_274 hG.o (Nat.le_of_ble_eq_true rfl) (Nat.zero_le _) (Nat.zero_le _) (C_X12_throwsIf hG (fun h11 hth11 => konI ?_))
  have hPE11 : ∀ hbb : (noB x (w 0)) = true, Mp M h h11 1 := fun hbb => hth11.t (hP.q hQ) hbb
  have hQE11 : ∀ hbb : (noB x (w 0)) = false, Mz M h1 h11 := fun hbb => hth11.q hQ hbb
  have hWE11 : ∀ hbb : (noB x (w 0)) = false, h11 (M + 1) = w := fun hbb => hth11.w hW hbb
  refine R_ifB_ne dX12_judge_15 (fun hb15 => ?_) (fun hb15 => ?_)
  · have hPX := hPE11 hb15
    refine R_iconst_0 dX12_judge_41 ?_
    exact R_iret dX12_judge_42 rfl (KE (noB_t hb15) _ hPX)
  · replace hQ := hQE11 hb15
    replace hW := hWE11 hb15
    have hx1 := noB_f hb15
    obtain ⟨j, rfl⟩ : ∃ j : Nat, x = (j : Int) := ⟨x.toNat, by omega⟩
    refine aL0 dX12_judge_18 ?_
    suffices J12 : Run (d + 11) 0 0 mX12_judge 34 [vR M, vI ((j : Nat) : Int), vI 8] [vI (bI (false)), vR M] g h11 P by
      refine iL2 dX12_judge_19 ?_
      refine R_iconst_0 dX12_judge_20 ?_
      refine R_bipush dX12_judge_21 (by decide) ?_
      refine invS3 rfl dX12_judge_23 kX12_101 (Nat.le_of_ble_eq_true rfl) (Nat.zero_le _) (Nat.zero_le _) (C_X12_in (konI ?_))
      refine R_ifB_ne dX12_judge_26 (fun hb26 => ?_) (fun hb26 => ?_)
      · refine R_iconst_0 dX12_judge_33 ?_
        exact topV (v := bI (false)) (by first | (exact absurd hb26 (by decide)) | rfl) J12
      · refine R_iconst_1 dX12_judge_29 ?_
        refine R_goto dX12_judge_30 ?_
        exact topV (v := bI (false)) (by first | (exact absurd hb26 (by decide)) | rfl) J12
    refine R_iconst_2 dX12_judge_34 ?_
    refine invV2 rfl dX12_judge_35 kX12_274 hG.o (Nat.le_of_ble_eq_true rfl) (Nat.zero_le _) (Nat.zero_le _) (C_X12_throwsIf hG (fun h13 hth13 => konI ?_))
    have hPE13 : ∀ hbb : (false) = true, Mp M h h13 2 := fun hbb => hth13.t (hP.q hQ) hbb
    have hQE13 : ∀ hbb : (false) = false, Mz M h1 h13 := fun hbb => hth13.q hQ hbb
    have hWE13 : ∀ hbb : (false) = false, h13 (M + 1) = w := fun hbb => hth13.w hW hbb
    refine R_ifB_eq dX12_judge_38 (fun hb38 => ?_) (fun hb38 => ?_)
    · replace hQ := hQE13 hb38
      replace hW := hWE13 hb38
      refine iL2 dX12_judge_43 ?_
      refine R_tsw (tt := 109) dX12_judge_44 (by decide) (by decide) ?_
      refine aL0 dX12_judge_109 ?_
      refine iL1 dX12_judge_110 ?_
      refine invV1 rfl dX12_judge_111 kX12_395 hG.o (Nat.le_of_ble_eq_true rfl) (Nat.zero_le _) (Nat.zero_le _) (C_X12_circuitOf hG hW hf (by omega) (fun h14 hx14 => konI ?_))
      replace hQ := hQ.tr hx14
      replace hW := hx14.w hW
      exact R_iret dX12_judge_114 rfl (K0 j rfl (by omega) _ (hP.q hQ))
    · exact absurd hb38 (by decide)
