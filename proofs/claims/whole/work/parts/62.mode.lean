/-- where a case would be freed within n hours -/
def h12 (w : Nat → Int) (n : Nat) : Int := if w 4 + (n : Int) < 12 then w 4 + (n : Int) else 12
def myI (w : Nat → Int) (n c k : Nat) : Bool := decide ((c : Int) < w 1) && (decide (((k / 12 : Nat) : Int) < w 0) && decide (w 4 ≤ ((k % 12 : Nat) : Int) ∧ ((k % 12 : Nat) : Int) ≤ h12 w n - 1))
def myB (w : Nat → Int) (n c k : Nat) : Bool := myI w n c k && wdP w (k / 12) c (k % 12)
set_option maxHeartbeats 2000000 in
theorem C_X12_laysMay {d : Nat} {g : Gs} {h : Hc} {P : Po} {M : Nat} {w : Nat → Int} (hG : MdG g M) (hW : h (M + 1) = w) (hf : WF w) (hl : LawOK w) {n : Nat} (hn : n ≤ 12) (K : ∀ h', Mz M h h' → (∀ c1 k1, c1 < 8 → k1 < 60 → h' (M + 13) (60 * c1 + k1) = bI (myB w n c1 k1)) → P (.inl none) g h') : Call (d + 8) 0 0 mX12_laysMay [vR M, vI ((n : Nat) : Int)] g h P := by
  refine Call_of rfl ⟨by decide +kernel, rfl⟩ (Nat.le_of_ble_eq_true rfl) rfl ?_
  have hQ : Mz M h h := Mz.rf _ _
  refine R_iconst_0 dX12_laysMay_0 ?_
  refine iS2 dX12_laysMay_1 ?_
  have hcs := hf.cas
  have hjd := hf.jud
  have hho := hf.hou
  refine loopN (8) (fun c => ∀ hK1 : Hc, Mz M h hK1 → hK1 (M + 1) = w → (∀ c1 k1, c1 < c → k1 < 60 → hK1 (M + 13) (60 * c1 + k1) = bI (myB w n c1 k1)) → ∀ v3 v4 v5 v6 : AV,  Run (d + 8) 0 0 mX12_laysMay 2 [vR M, vI ((n : Nat) : Int), vI ((c : Nat) : Int), v3, v4, v5, v6] [] g hK1 P) (fun c hcnc ihc hK1 hQ hW hR0 v3 v4 v5 v6 => ?_) (0) (Nat.zero_le _) _ hQ hW (fun _ _ h9 => absurd h9 (Nat.not_lt_zero _)) _ _ _ _
  refine iL2 dX12_laysMay_2 ?_
  refine R_bipush dX12_laysMay_3 (by decide) ?_
  refine R_icmp_ge dX12_laysMay_5 (fun hb5 => ?_) (fun hb5 => ?_)
  · have e9 : c = 8 := by omega
    subst e9
    exact R_vret dX12_laysMay_126 rfl (K _ hQ (fun c1 k1 h8 h9 => hR0 c1 k1 h8 h9))
  · refine R_iconst_0 dX12_laysMay_8 ?_
    refine iS3 dX12_laysMay_9 ?_
    refine loopN (60) (fun k => ∀ hK2 : Hc, Mz M h hK2 → hK2 (M + 1) = w → (∀ c1 k1, (c1 < c ∨ (c1 = c ∧ k1 < k)) → k1 < 60 → hK2 (M + 13) (60 * c1 + k1) = bI (myB w n c1 k1)) → ∀ v4 v5 v6 : AV,  Run (d + 8) 0 0 mX12_laysMay 10 [vR M, vI ((n : Nat) : Int), vI ((c : Nat) : Int), vI ((k : Nat) : Int), v4, v5, v6] [] g hK2 P) (fun k hcnk ihk hK2 hQ hW hR v4 v5 v6 => ?_) (0) (Nat.zero_le _) _ hQ hW (fun c1 k1 h8 h9 => hR0 c1 k1 (by omega) h9) _ _ _
    refine iL3 dX12_laysMay_10 ?_
    refine R_bipush dX12_laysMay_11 (by decide) ?_
    refine R_icmp_ge dX12_laysMay_13 (fun hb13 => ?_) (fun hb13 => ?_)
    · refine iInc2 dX12_laysMay_120 (winc (by omega)) ?_
      refine R_goto dX12_laysMay_123 ?_
      exact ihc (by omega) _ hQ hW (fun c1 k1 h8 h9 => hR c1 k1 (by omega) h9) _ _ _ _
    · refine iL3 dX12_laysMay_16 ?_
      refine R_bipush dX12_laysMay_17 (by decide) ?_
      refine divV dX12_laysMay_19 (by decide) (v := ((k / 12 : Nat) : Int)) (divN (k := 12) (by omega) (by decide)) ?_
      refine iS4 dX12_laysMay_20 ?_
      refine iL3 dX12_laysMay_22 ?_
      refine R_bipush dX12_laysMay_23 (by decide) ?_
      refine remV dX12_laysMay_25 (by decide) (v := ((k % 12 : Nat) : Int)) (remN (k := 12) (by omega) (by decide)) ?_
      refine iS5 dX12_laysMay_26 ?_
      suffices J3 : Run (d + 8) 0 0 mX12_laysMay 79 [vR M, vI ((n : Nat) : Int), vI ((c : Nat) : Int), vI ((k : Nat) : Int), vI (((k / 12) : Nat) : Int), vI (((k % 12) : Nat) : Int), v6] [vI (bI (myI w n c k))] g hK2 P by
        refine iL2 dX12_laysMay_28 ?_
        refine aL0 dX12_laysMay_29 ?_
        refine invV0 rfl dX12_laysMay_30 kX12_90 hG.o (Nat.le_of_ble_eq_true rfl) (Nat.zero_le _) (Nat.zero_le _) (C_X12_cases hG hW hf (konI ?_))
        have hcs := hf.cas
        refine R_icmp_ge dX12_laysMay_33 (fun hb33 => ?_) (fun hb33 => ?_)
        · refine R_iconst_0 dX12_laysMay_78 ?_
          exact topV (v := bI (myI w n c k)) (by first | (rw [bI_t (by simp at hb71; simp [myI]; omega)]; done) | (rw [bI_f (by simp at hb71; simp [myI]; omega)]; done) | (rw [bI_f (by simp [myI]; omega)]; done)) J3
        · refine iL4 dX12_laysMay_36 ?_
          refine aL0 dX12_laysMay_38 ?_
          refine invV0 rfl dX12_laysMay_39 kX12_98 hG.o (Nat.le_of_ble_eq_true rfl) (Nat.zero_le _) (Nat.zero_le _) (C_X12_judges hG hW hf (konI ?_))
          have hjd := hf.jud
          refine R_icmp_ge dX12_laysMay_42 (fun hb42 => ?_) (fun hb42 => ?_)
          · refine R_iconst_0 dX12_laysMay_78 ?_
            exact topV (v := bI (myI w n c k)) (by first | (rw [bI_t (by simp at hb71; simp [myI]; omega)]; done) | (rw [bI_f (by simp at hb71; simp [myI]; omega)]; done) | (rw [bI_f (by simp [myI]; omega)]; done)) J3
          · refine iL5 dX12_laysMay_45 ?_
            refine aL0 dX12_laysMay_47 ?_
            refine R_getR dX12_laysMay_48 fX12_13.r hG.o rfl ?_
            refine R_iconst_4 dX12_laysMay_51 ?_
            refine ialdN (k := 4) dX12_laysMay_52 hG.a1 rfl (by decide) ?_
            refine topV (v := w 4) (congrFun hW _) ?_
            have hq4 := hf.hou
            refine R_bipush dX12_laysMay_53 (by decide) ?_
            refine aL0 dX12_laysMay_55 ?_
            refine R_getR dX12_laysMay_56 fX12_13.r hG.o rfl ?_
            refine R_iconst_4 dX12_laysMay_59 ?_
            refine ialdN (k := 4) dX12_laysMay_60 hG.a1 rfl (by decide) ?_
            refine topV (v := w 4) (congrFun hW _) ?_
            have hq5 := hf.hou
            refine iL1 dX12_laysMay_61 ?_
            refine addV dX12_laysMay_62 (wid (by omega) (by omega)) ?_
            refine R_mmin dX12_laysMay_63 kX12_318 lb_min (Nat.le_of_ble_eq_true rfl) ?_
            refine topV (v := h12 w n) (rfl) ?_
            have hh12 : 0 ≤ h12 w n ∧ h12 w n ≤ 12 := by unfold h12; split <;> omega
            refine R_iconst_1 dX12_laysMay_66 ?_
            refine subV dX12_laysMay_67 (wid (by omega) (by omega)) ?_
            refine invS3 rfl dX12_laysMay_68 kX12_101 (Nat.le_of_ble_eq_true rfl) (Nat.zero_le _) (Nat.zero_le _) (C_X12_in (konI ?_))
            refine R_ifB_eq dX12_laysMay_71 (fun hb71 => ?_) (fun hb71 => ?_)
            · refine R_iconst_0 dX12_laysMay_78 ?_
              exact topV (v := bI (myI w n c k)) (by first | (rw [bI_t (by simp at hb71; simp [myI]; omega)]; done) | (rw [bI_f (by simp at hb71; simp [myI]; omega)]; done) | (rw [bI_f (by simp [myI]; omega)]; done)) J3
            · refine R_iconst_1 dX12_laysMay_74 ?_
              refine R_goto dX12_laysMay_75 ?_
              exact topV (v := bI (myI w n c k)) (by first | (rw [bI_t (by simp at hb71; simp [myI]; omega)]; done) | (rw [bI_f (by simp at hb71; simp [myI]; omega)]; done) | (rw [bI_f (by simp [myI]; omega)]; done)) J3
      refine iS6 dX12_laysMay_79 ?_
      refine aL0 dX12_laysMay_81 ?_
      refine R_getR dX12_laysMay_82 fX12_55.r hG.o rfl ?_
      refine R_bipush dX12_laysMay_85 (by decide) ?_
      refine iL2 dX12_laysMay_87 ?_
      refine mulV dX12_laysMay_88 (v := (((60 * c) : Nat) : Int)) (by rw [wid (by omega) (by omega)]; omega) ?_
      refine iL3 dX12_laysMay_89 ?_
      refine addV dX12_laysMay_90 (v := ((((60 * c) + k) : Nat) : Int)) (by rw [wid (by omega) (by omega)]; omega) ?_
      refine topV (v := (((60 * c + k) : Nat) : Int)) (rfl) ?_
      suffices J6 : ∀ hJ6 : Hc, Mz M h hJ6 → hJ6 (M + 1) = w → hJ6 (M + 13) = hK2 (M + 13) → Run (d + 8) 0 0 mX12_laysMay 113 [vR M, vI ((n : Nat) : Int), vI ((c : Nat) : Int), vI ((k : Nat) : Int), vI (((k / 12) : Nat) : Int), vI (((k % 12) : Nat) : Int), vI (bI (myI w n c k))] [vI (bI (myB w n c k)), vI (((60 * c + k) : Nat) : Int), vR (M + 13)] g hJ6 P by
        refine iL6 dX12_laysMay_91 ?_
        refine R_ifB_eq dX12_laysMay_93 (fun hb93 => ?_) (fun hb93 => ?_)
        · refine R_iconst_0 dX12_laysMay_112 ?_
          exact topV (v := bI (myB w n c k)) (by first | (rw [bI_f (by first | (simp only [myB, hb93, Bool.false_and]; done) | fail)]; done) | (rw [bI_t (by simp only [myB, hb93, Bool.true_and, wdP]; exact decide_eq_true (by omega))]; done) | (rw [bI_f (by simp only [myB, hb93, Bool.true_and, wdP]; exact decide_eq_false (by omega))]; done)) (J6 _ hQ hW rfl)
        · have hmi : myI w n c k = true := hb93
          simp [myI] at hmi
          refine aL0 dX12_laysMay_96 ?_
          refine iL4 dX12_laysMay_97 ?_
          refine iL2 dX12_laysMay_99 ?_
          refine iL5 dX12_laysMay_100 ?_
          refine invV3 rfl dX12_laysMay_102 kX12_398 hG.o (Nat.le_of_ble_eq_true rfl) (Nat.zero_le _) (Nat.zero_le _) (C_X12_wouldBe hG hW hf hl (by omega) (by omega) (by omega) (fun h7 hx7 => konI ?_))
          replace hQ := hQ.tr (Mq.z hx7)
          replace hW := hx7.w hW
          refine R_if_lt dX12_laysMay_105 (fun hb105 => ?_) (fun hb105 => ?_)
          · refine R_iconst_0 dX12_laysMay_112 ?_
            exact topV (v := bI (myB w n c k)) (by first | (rw [bI_f (by first | (simp only [myB, hb93, Bool.false_and]; done) | fail)]; done) | (rw [bI_t (by simp only [myB, hb93, Bool.true_and, wdP]; exact decide_eq_true (by omega))]; done) | (rw [bI_f (by simp only [myB, hb93, Bool.true_and, wdP]; exact decide_eq_false (by omega))]; done)) (J6 _ hQ hW (hx7.keep (by omega)))
          · refine R_iconst_1 dX12_laysMay_108 ?_
            refine R_goto dX12_laysMay_109 ?_
            exact topV (v := bI (myB w n c k)) (by first | (rw [bI_f (by first | (simp only [myB, hb93, Bool.false_and]; done) | fail)]; done) | (rw [bI_t (by simp only [myB, hb93, Bool.true_and, wdP]; exact decide_eq_true (by omega))]; done) | (rw [bI_f (by simp only [myB, hb93, Bool.true_and, wdP]; exact decide_eq_false (by omega))]; done)) (J6 _ hQ hW (hx7.keep (by omega)))
      intro hJ6 hQ hW hkp6
      rw [← hkp6] at hR
      refine zastN dX12_laysMay_113 hG.a13 rfl (by omega) (bI01 _) ?_
      refine storH (fun h8 e8 => ?_)
      have hQ0 := hQ
      have hW0 := hW
      replace hQ : Mz M h h8 := by rw [e8]; exact hQ0.arr (by omega)
      replace hW : h8 (M + 1) = w := by rw [e8, updH_a (by omega)]; exact hW0
      refine iInc3 dX12_laysMay_114 (winc (by omega)) ?_
      refine R_goto dX12_laysMay_117 ?_
      exact ihk (by omega) _ hQ hW (fun c1 k1 h8 h9 => by
          rw [e8]
          by_cases e8 : 60 * c1 + k1 = 60 * c + k
          · have e7 : c1 = c := by omega
            have e6 : k1 = k := by omega
            subst e7; subst e6; exact updH_s _ _ _ _
          · rw [updH_i e8]; exact hR c1 k1 (by omega) h9) _ _ _
set_option maxHeartbeats 400000 in
theorem C_X12_emptiesList {d : Nat} {g : Gs} {h : Hc} {P : Po} {M : Nat} (hG : MdG g M) (K : ∀ h', Off (fun q => q = M + 11) h h' → (∀ i, i < 60 → h' (M + 11) i = -1) → P (.inl none) g h') : Call (d + 0) 0 0 mX12_emptiesList [vR M] g h P := by
  refine Call_of rfl ⟨by decide +kernel, rfl⟩ (Nat.le_of_ble_eq_true rfl) rfl ?_
  refine R_iconst_0 dX12_emptiesList_0 ?_
  refine iS1 dX12_emptiesList_1 ?_
  refine loopN 60 (fun q => ∀ hK : Hc, Off (fun q => q = M + 11) h hK → (∀ i, i < q → hK (M + 11) i = -1) → Run (d + 0) 0 0 mX12_emptiesList 2 [vR M, vI ((q : Nat) : Int)] [] g hK P) (fun q hcq ihq hK hO hR => ?_) 0 (Nat.zero_le _) h (Off.rf _ _) (fun i hi => absurd hi (Nat.not_lt_zero _))
  refine iL1 dX12_emptiesList_2 ?_
  refine R_bipush dX12_emptiesList_3 (by decide) ?_
  refine R_icmp_ge dX12_emptiesList_5 (fun hb5 => ?_) (fun hb5 => ?_)
  · have e9 : q = 60 := by omega
    subst e9
    exact R_vret dX12_emptiesList_21 rfl (K _ hO hR)
  · refine aL0 dX12_emptiesList_8 ?_
    refine R_getR dX12_emptiesList_9 fX12_48.r hG.o rfl ?_
    refine iL1 dX12_emptiesList_12 ?_
    refine R_iconst_m1 dX12_emptiesList_13 ?_
    refine iastN dX12_emptiesList_14 hG.a11 rfl (by omega) ?_
    refine storH (fun h1 e1 => ?_)
    refine iInc1 dX12_emptiesList_15 (winc (by omega)) ?_
    refine R_goto dX12_emptiesList_18 ?_
    exact ihq (by omega) _ (by rw [e1]; exact hO.upd rfl) (fun i hi => by
        rw [e1]
        by_cases e8 : i = q
        · subst e8; exact updH_s _ _ _ _
        · rw [updH_i e8]; exact hR i (by omega))
/-- the rows of the search, in the heap -/
def HR (M : Nat) (h0 h : Hc) (r : Nat) (R : Nat → Nat) (T : Nat → Bool) (C : Nat → Int) (b : Nat) : Prop :=
  Off (fun q => q = M + 12 ∨ q = M + 14 ∨ q = M + 15) h0 h ∧ (∀ m, m < r → h (M + 15) m = (R m : Int)) ∧ (∀ k, k < b → h (M + 12) k = bI (T k)) ∧ (∀ k, k < b → h (M + 14) k = C k)
theorem HR.k11 {M : Nat} {h0 h : Hc} {r b : Nat} {R : Nat → Nat} {T : Nat → Bool} {C : Nat → Int} (q : HR M h0 h r R T C b) : h (M + 11) = h0 (M + 11) := q.1 _ (by omega)
theorem HR.k13 {M : Nat} {h0 h : Hc} {r b : Nat} {R : Nat → Nat} {T : Nat → Bool} {C : Nat → Int} (q : HR M h0 h r R T C b) : h (M + 13) = h0 (M + 13) := q.1 _ (by omega)
/-- a place more is reached -/
theorem HR.add {M : Nat} {h0 h h' : Hc} {r k : Nat} {R : Nat → Nat} {T : Nat → Bool} {C : Nat → Int} {v : Int} (q : HR M h0 h r R T C 60) (hk : k < 60)
    (e1 : h' = updH (updH (updH h (M + 12) k 1) (M + 14) k v) (M + 15) r (k : Int)) : HR M h0 h' r.succ (updN R r k) (fun j => T j || decide (j = k)) (updW C k v) 60 := by
  obtain ⟨a, b, c, d⟩ := q
  rw [e1]
  refine ⟨((a.upd (Or.inl rfl)).upd (Or.inr (Or.inl rfl))).upd (Or.inr (Or.inr rfl)), fun m hm => ?_, fun j hj => ?_, fun j hj => ?_⟩
  · by_cases e : m = r
    · subst e; rw [updH_s, updN_s]
    · rw [updH_i e, updH_a (by omega), updH_a (by omega), updN_n e]; exact b m (by omega)
  · rw [updH_a (by omega), updH_a (by omega)]
    by_cases e : j = k
    · subst e; rw [updH_s]; simp [bI]
    · rw [updH_i e, c j hj]; simp [e]
  · rw [updH_a (by omega)]
    by_cases e : j = k
    · subst e; rw [updH_s, updW_s]
    · rw [updH_i e, updH_a (by omega), updW_n e]; exact d j hj
/-- the first places, those that the case itself may have -/
def fsT (my : Nat → Nat → Bool) (c q k : Nat) : Bool := decide (k < q) && my c k
theorem fsT_s {my : Nat → Nat → Bool} {c q : Nat} (k : Nat) : fsT my c (q + 1) k = (fsT my c q k || (decide (k = q) && my c q)) := by
  unfold fsT
  by_cases e : k = q
  · subst e; simp
  · rw [show decide (k < q + 1) = decide (k < q) by rw [decide_eq_decide]; omega]; simp [e]
set_option maxHeartbeats 4000000 in
theorem C_X12_isKept {d : Nat} {g : Gs} {h : Hc} {P : Po} {M : Nat} (hG : MdG g M) {my : Nat → Nat → Bool} {S : Nat → Bool} {K : Nat → Int} {c : Nat} (hMay : ∀ c1 k1, c1 < 8 → k1 < 60 → h (M + 13) (60 * c1 + k1) = bI (my c1 k1)) (hK : ∀ k, k < 60 → h (M + 11) k = K k) (hMat : Mat my S K) (hc : c < 8) (hSc : S c = false) (KT : ∀ h' K', Off (fun q => q = M + 11 ∨ q = M + 12 ∨ q = M + 14 ∨ q = M + 15) h h' → (∀ k, k < 60 → h' (M + 11) k = K' k) → Mat my (fun x => S x || decide (x = c)) K' → P (.inl (some (vI 1))) g h') (KF : ∀ h', Off (fun q => q = M + 11 ∨ q = M + 12 ∨ q = M + 14 ∨ q = M + 15) h h' → h' (M + 11) = h (M + 11) → ¬ Hal my (fun x => S x || decide (x = c)) → P (.inl (some (vI 0))) g h') : Call (d + 0) 0 0 mX12_isKept [vR M, vI ((c : Nat) : Int)] g h P := by
  refine Call_of rfl ⟨by decide +kernel, rfl⟩ (Nat.le_of_ble_eq_true rfl) rfl ?_
  refine R_iconst_0 dX12_isKept_0 ?_
  refine iS2 dX12_isKept_1 ?_
  refine R_iconst_0 dX12_isKept_2 ?_
  refine iS3 dX12_isKept_3 ?_
  refine loopN 60 (fun k => ∀ (hK0 : Hc), ∀ (r : Nat) (R : Nat → Nat), BF my c K r R (fsT my c k) (fun _ => -1) → HR M h hK0 r R (my c) (fun _ => -1) k → Run (d + 0) 0 0 mX12_isKept 4 [vR M, vI ((c : Nat) : Int), vI ((r : Nat) : Int), vI ((k : Nat) : Int), vU, vU, vU] [] g hK0 P) (fun k hck ihk hK0 r R hB hH => ?_) 0 (Nat.zero_le _) h 0 (fun _ => 0) ((BF.emp my c K _ _).cong (fun _ _ => rfl) (fun _ _ => by simp [fsT]) (fun _ _ => rfl)) ⟨Off.rf _ _, fun _ h9 => absurd h9 (Nat.not_lt_zero _), fun _ h9 => absurd h9 (Nat.not_lt_zero _), fun _ h9 => absurd h9 (Nat.not_lt_zero _)⟩
  refine iL3 dX12_isKept_4 ?_
  refine R_bipush dX12_isKept_5 (by decide) ?_
  refine R_icmp_ge dX12_isKept_7 (fun hb7 => ?_) (fun hb7 => ?_)
  · have e9 : k = 60 := by omega
    subst e9
    have hB1 : BF my c K r R (my c) (fun _ => -1) := hB.cong (fun _ _ => rfl) (fun j hj => by simp [fsT, hj]) (fun _ _ => rfl)
    have hrle := hB1.le
    refine R_iconst_m1 dX12_isKept_62 ?_
    refine iS3 dX12_isKept_63 ?_
    refine R_iconst_0 dX12_isKept_64 ?_
    refine iS4 dX12_isKept_65 ?_
    clear hB ihk
    suffices JF : ∀ (hJ : Hc) (r : Nat) (R : Nat → Nat) (T : Nat → Bool) (C : Nat → Int) (m : Nat) (v2 v4 v5 v6 : AV), BF my c K r R T C → HR M h hJ r R T C 60 → m < r → K (R m) = -1 → Run (d + 0) 0 0 mX12_isKept 203 [vR M, vI ((c : Nat) : Int), v2, vI (((R m) : Nat) : Int), v4, v5, v6] [] g hJ P by
      refine loopN 60 (fun i => ∀ (hK0 : Hc) (r : Nat) (R : Nat → Nat) (T : Nat → Bool) (C : Nat → Int) (v5 v6 : AV), BF my c K r R T C → HR M h hK0 r R T C 60 → i ≤ r → (∀ k, k < 60 → my c k = true → T k = true) → (∀ m, m < i → ∃ x : Nat, K (R m) = (x : Int) ∧ ∀ k, k < 60 → my x k = true → T k = true) → Run (d + 0) 0 0 mX12_isKept 67 [vR M, vI ((c : Nat) : Int), vI ((r : Nat) : Int), vI (-1), vI ((i : Nat) : Int), v5, v6] [] g hK0 P) (fun i hci ihi hK0 r R T C v5 v6 hB hH hir h7 h8 => ?_) 0 (Nat.zero_le _) _ r R _ _ _ _ hB1 hH (Nat.zero_le _) (fun _ _ h9 => h9) (fun _ h9 => absurd h9 (Nat.not_lt_zero _))
      have hrle := hB.le
      refine iL4 dX12_isKept_67 ?_
      refine iL2 dX12_isKept_69 ?_
      refine R_icmp_ge dX12_isKept_70 (fun hb70 => ?_) (fun hb70 => ?_)
      · have e9 : i = r := by omega
        refine iL3 dX12_isKept_196 ?_
        refine R_iconst_m1 dX12_isKept_197 ?_
        refine R_icmp_ne dX12_isKept_198 (fun hb198 => ?_) (fun hb198 => ?_)
        · exact absurd rfl hb198
        · refine R_iconst_0 dX12_isKept_201 ?_
          exact R_zret dX12_isKept_202 rfl (by decide) (KF _ (by intro a ha; exact hH.1 a (fun h9 => ha (by omega))) (by rw [hH.k11]) (hB.full hMat hc hSc h7 (fun m hm => h8 m (by omega))))
      · refine iL3 dX12_isKept_73 ?_
        refine R_iconst_m1 dX12_isKept_74 ?_
        refine R_icmp_ne dX12_isKept_75 (fun hb75 => ?_) (fun hb75 => ?_)
        · exact absurd rfl hb75
        · refine aL0 dX12_isKept_78 ?_
          refine R_getR dX12_isKept_79 fX12_48.r hG.o rfl ?_
          refine aL0 dX12_isKept_82 ?_
          refine R_getR dX12_isKept_83 fX12_61.r hG.o rfl ?_
          refine iL4 dX12_isKept_86 ?_
          refine ialdN dX12_isKept_88 hG.a15 rfl (by omega) ?_
          refine topV (v := (((R i) : Nat) : Int)) (hH.2.1 i (by omega)) ?_
          have hRi := hB.1 i (by omega)
          refine ialdN dX12_isKept_89 hG.a11 rfl (by omega) ?_
          refine topV (v := K (R i)) (by rw [hH.k11]; exact hK (R i) hRi) ?_
          refine iS5 dX12_isKept_90 ?_
          refine iL5 dX12_isKept_92 ?_
          refine R_iconst_m1 dX12_isKept_94 ?_
          refine R_icmp_ne dX12_isKept_95 (fun hb95 => ?_) (fun hb95 => ?_)
          · obtain ⟨x, hxe, hx8, hxS, hxm⟩ : ∃ x : Nat, K (R i) = (x : Int) ∧ x < 8 ∧ S x = true ∧ my x (R i) = true := (hMat.1 (R i) hRi).resolve_left hb95
            refine eqI5 (v := (x : Int)) hxe ?_
            refine R_iconst_0 dX12_isKept_106 ?_
            refine iS6 dX12_isKept_107 ?_
            refine loopN 60 (fun k => ∀ (hK1 : Hc) (r : Nat) (R : Nat → Nat) (T : Nat → Bool) (C : Nat → Int), BF my c K r R T C → HR M h hK1 r R T C 60 → i < r → (∀ k, k < 60 → my c k = true → T k = true) → (∀ m, m < i → ∃ x : Nat, K (R m) = (x : Int) ∧ ∀ k, k < 60 → my x k = true → T k = true) → K (R i) = (x : Int) → (∀ j, j < k → my x j = true → T j = true) → Run (d + 0) 0 0 mX12_isKept 109 [vR M, vI ((c : Nat) : Int), vI ((r : Nat) : Int), vI (-1), vI ((i : Nat) : Int), vI ((x : Nat) : Int), vI ((k : Nat) : Int)] [] g hK1 P) (fun k hck ihk hK1 r R T C hB hH hir h7 h8 hxe hcl => ?_) 0 (Nat.zero_le _) _ r R T C hB hH (by omega) h7 h8 hxe (fun _ h9 => absurd h9 (Nat.not_lt_zero _))
            have hrle := hB.le
            have hRi := hB.1 i (by omega)
            refine iL6 dX12_isKept_109 ?_
            refine R_bipush dX12_isKept_111 (by decide) ?_
            refine R_icmp_ge dX12_isKept_113 (fun hb113 => ?_) (fun hb113 => ?_)
            · refine iInc4 dX12_isKept_190 (winc (by omega)) ?_
              refine R_goto dX12_isKept_193 ?_
              exact ihi (by omega) _ r R T C _ _ hB hH (by omega) h7 (fun m hm => by
                  by_cases e8 : m = i
                  · subst e8; exact ⟨x, hxe, fun j hj hmj => hcl j (by omega) hmj⟩
                  · exact h8 m (by omega))
            · refine iL5 dX12_isKept_116 ?_
              refine R_iconst_m1 dX12_isKept_118 ?_
              refine R_icmp_eq dX12_isKept_119 (fun hb119 => ?_) (fun hb119 => ?_)
              · omega
              · refine aL0 dX12_isKept_122 ?_
                refine R_getR dX12_isKept_123 fX12_51.r hG.o rfl ?_
                refine iL6 dX12_isKept_126 ?_
                refine zaldN dX12_isKept_128 hG.a12 rfl (by omega) ?_
                refine topV (v := bI (T k)) (hH.2.2.1 k (by omega)) ?_
                refine R_ifB_ne dX12_isKept_129 (fun hb129 => ?_) (fun hb129 => ?_)
                · refine iInc6 dX12_isKept_184 (winc (by omega)) ?_
                  refine R_goto dX12_isKept_187 ?_
                  exact ihk (by omega) _ r R T C hB hH hir h7 h8 hxe (fun j hj hmj => by
                      by_cases e8 : j = k
                      · subst e8; first | exact hb129 | (rw [hb145] at hmj; exact absurd hmj (by decide))
                      · exact hcl j (by omega) hmj)
                · have hrl := hB.lt (by omega) hb129
                  refine aL0 dX12_isKept_132 ?_
                  refine R_getR dX12_isKept_133 fX12_55.r hG.o rfl ?_
                  refine R_bipush dX12_isKept_136 (by decide) ?_
                  refine iL5 dX12_isKept_138 ?_
                  refine mulV dX12_isKept_140 (v := (((60 * x) : Nat) : Int)) (by rw [wid (by omega) (by omega)]; omega) ?_
                  refine iL6 dX12_isKept_141 ?_
                  refine addV dX12_isKept_143 (v := ((((60 * x) + k) : Nat) : Int)) (by rw [wid (by omega) (by omega)]; omega) ?_
                  refine topV (v := (((60 * x + k) : Nat) : Int)) (rfl) ?_
                  refine zaldN dX12_isKept_144 hG.a13 rfl (by omega) ?_
                  refine topV (v := bI (my x k)) (by rw [hH.k13]; exact hMay x k hx8 (by omega)) ?_
                  refine R_ifB_ne dX12_isKept_145 (fun hb145 => ?_) (fun hb145 => ?_)
                  · refine aL0 dX12_isKept_151 ?_
                    refine R_getR dX12_isKept_152 fX12_51.r hG.o rfl ?_
                    refine iL6 dX12_isKept_155 ?_
                    refine R_iconst_1 dX12_isKept_157 ?_
                    refine zastN dX12_isKept_158 hG.a12 rfl (by omega) (by decide) ?_
                    refine storH (fun h1 e1 => ?_)
                    refine aL0 dX12_isKept_159 ?_
                    refine R_getR dX12_isKept_160 fX12_58.r hG.o rfl ?_
                    refine iL6 dX12_isKept_163 ?_
                    refine aL0 dX12_isKept_165 ?_
                    refine R_getR dX12_isKept_166 fX12_61.r hG.o rfl ?_
                    refine iL4 dX12_isKept_169 ?_
                    refine ialdN dX12_isKept_171 hG.a15 rfl (by omega) ?_
                    refine topV (v := (((R i) : Nat) : Int)) (by rw [e1, updH_a (by omega)]; exact hH.2.1 i (by omega)) ?_
                    refine iastN dX12_isKept_172 hG.a14 rfl (by omega) ?_
                    refine storH (fun h2 e2 => ?_)
                    refine aL0 dX12_isKept_173 ?_
                    refine R_getR dX12_isKept_174 fX12_61.r hG.o rfl ?_
                    refine iL2 dX12_isKept_177 ?_
                    refine iL6 dX12_isKept_178 ?_
                    refine iastN dX12_isKept_180 hG.a15 rfl (by omega) ?_
                    refine storH (fun h3 e3 => ?_)
                    refine iInc2 dX12_isKept_181 (winc (by omega)) ?_
                    refine iInc6 dX12_isKept_184 (winc (by omega)) ?_
                    refine R_goto dX12_isKept_187 ?_
                    exact ihk (by omega) _ (r + 1) (updN R r k) (fun j => T j || decide (j = k)) (updW C k (R i)) (hB.add (by omega) hb129 (Or.inr ⟨i, x, by omega, rfl, hxe, hb145⟩)) (hH.add (by omega) (by rw [e3, e2, e1])) (by omega) (fun j hj hmj => by simp [h7 j hj hmj]) (fun m hm => by
                        obtain ⟨y, hy1, hy2⟩ := h8 m hm
                        exact ⟨y, by rw [updN_n (by omega)]; exact hy1, fun j hj hmj => by simp [hy2 j hj hmj]⟩) (by rw [updN_n (by omega)]; exact hxe) (fun j hj hmj => by
                        by_cases e8 : j = k
                        · simp [e8]
                        · simp [hcl j (by omega) hmj])
                  · refine R_goto dX12_isKept_148 ?_
                    refine iInc6 dX12_isKept_184 (winc (by omega)) ?_
                    refine R_goto dX12_isKept_187 ?_
                    exact ihk (by omega) _ r R T C hB hH hir h7 h8 hxe (fun j hj hmj => by
                        by_cases e8 : j = k
                        · subst e8; first | exact hb129 | (rw [hb145] at hmj; exact absurd hmj (by decide))
                        · exact hcl j (by omega) hmj)
          · refine eqI5 (v := -1) hb95 ?_
            refine aL0 dX12_isKept_98 ?_
            refine R_getR dX12_isKept_99 fX12_61.r hG.o rfl ?_
            refine iL4 dX12_isKept_102 ?_
            refine ialdN dX12_isKept_104 hG.a15 rfl (by omega) ?_
            refine topV (v := (((R i) : Nat) : Int)) (hH.2.1 i (by omega)) ?_
            refine iS3 dX12_isKept_105 ?_
            refine R_iconst_0 dX12_isKept_106 ?_
            refine iS6 dX12_isKept_107 ?_
            refine eqI6 (v := 0) rfl ?_
            refine iL6 dX12_isKept_109 ?_
            refine R_bipush dX12_isKept_111 (by decide) ?_
            refine R_icmp_ge dX12_isKept_113 (fun hb113 => ?_) (fun hb113 => ?_)
            · omega
            · refine iL5 dX12_isKept_116 ?_
              refine R_iconst_m1 dX12_isKept_118 ?_
              refine R_icmp_eq dX12_isKept_119 (fun hb119 => ?_) (fun hb119 => ?_)
              · refine iInc4 dX12_isKept_190 (winc (by omega)) ?_
                refine R_goto dX12_isKept_193 ?_
                refine iL4 dX12_isKept_67 ?_
                refine iL2 dX12_isKept_69 ?_
                refine R_icmp_ge dX12_isKept_70 (fun hb70 => ?_) (fun hb70 => ?_)
                · refine iL3 dX12_isKept_196 ?_
                  refine R_iconst_m1 dX12_isKept_197 ?_
                  refine R_icmp_ne dX12_isKept_198 (fun hb198 => ?_) (fun hb198 => ?_)
                  · exact JF _ r R T C i _ _ _ _ hB hH (by omega) hb95
                  · omega
                · refine iL3 dX12_isKept_73 ?_
                  refine R_iconst_m1 dX12_isKept_74 ?_
                  refine R_icmp_ne dX12_isKept_75 (fun hb75 => ?_) (fun hb75 => ?_)
                  · refine iL3 dX12_isKept_196 ?_
                    refine R_iconst_m1 dX12_isKept_197 ?_
                    refine R_icmp_ne dX12_isKept_198 (fun hb198 => ?_) (fun hb198 => ?_)
                    · exact JF _ r R T C i _ _ _ _ hB hH (by omega) hb95
                    · omega
                  · omega
              · exact absurd rfl hb119
    intro hJ r R T C m v2 v4 v5 v6 hB hH hm hKm
    have hAU := AU.start (R := R) hMat hKm
    have hK5 : ∀ k, k < 60 → hJ (M + 11) k = K k := fun k hk => by rw [hH.k11]; exact hK k hk
    refine loopN 60 (fun q => ∀ (hL : Hc) (m : Nat) (Kf : Nat → Int), Off (fun q => q = M + 11) hJ hL → (∀ k, k < 60 → hL (M + 11) k = Kf k) → AU my S R K Kf m → m < r → m + q < 60 → Run (d + 0) 0 0 mX12_isKept 203 [vR M, vI ((c : Nat) : Int), v2, vI (((R m) : Nat) : Int), v4, v5, v6] [] g hL P) (fun q hcq ihq hL m Kf hO hKf hAU hm hmq => ?_) 0 (Nat.zero_le _) hJ m K (Off.rf _ _) hK5 hAU hm (by have := hB.le; omega)
    have hRm := hB.1 m hm
    have hL14 : hL (M + 14) = hJ (M + 14) := hO _ (by omega)
    refine aL0 dX12_isKept_203 ?_
    refine R_getR dX12_isKept_204 fX12_58.r hG.o rfl ?_
    refine iL3 dX12_isKept_207 ?_
    refine ialdN dX12_isKept_208 hG.a14 rfl (by omega) ?_
    refine topV (v := C (R m)) (by rw [hL14]; exact hH.2.2.2 (R m) hRm) ?_
    refine R_iconst_m1 dX12_isKept_209 ?_
    refine R_icmp_eq dX12_isKept_210 (fun hb210 => ?_) (fun hb210 => ?_)
    · have hmc := ((hB.2.2.2.2 m hm).resolve_right (fun ⟨m', x, _, hCe, _, _⟩ => by omega)).2
      refine aL0 dX12_isKept_240 ?_
      refine R_getR dX12_isKept_241 fX12_48.r hG.o rfl ?_
      refine iL3 dX12_isKept_244 ?_
      refine iL1 dX12_isKept_245 ?_
      refine iastN dX12_isKept_246 hG.a11 rfl (by omega) ?_
      refine storH (fun h4 e4 => ?_)
      refine R_iconst_1 dX12_isKept_247 ?_
      exact R_zret dX12_isKept_248 rfl (by decide) (KT _ (updW Kf (R m) (c : Int)) (by rw [e4]; exact ((hH.1.mono (fun q hq => by omega)).tr (hO.mono (fun q hq => Or.inl hq))).upd (Or.inl rfl)) (fun k hk => by
          rw [e4, updH_r]
          unfold updW
          split
          · rfl
          · exact hKf k hk) (hAU.fin hRm hc hSc hmc))
    · obtain ⟨m', x, hm', hCe, hxe, hxm⟩ := (hB.2.2.2.2 m hm).resolve_left (fun h9 => hb210 h9.1)
      have hRm' := hB.1 m' (by omega)
      refine aL0 dX12_isKept_213 ?_
      refine R_getR dX12_isKept_214 fX12_48.r hG.o rfl ?_
      refine iL3 dX12_isKept_217 ?_
      refine aL0 dX12_isKept_218 ?_
      refine R_getR dX12_isKept_219 fX12_48.r hG.o rfl ?_
      refine aL0 dX12_isKept_222 ?_
      refine R_getR dX12_isKept_223 fX12_58.r hG.o rfl ?_
      refine iL3 dX12_isKept_226 ?_
      refine ialdN dX12_isKept_227 hG.a14 rfl (by omega) ?_
      refine topV (v := (((R m') : Nat) : Int)) (by rw [hL14, hH.2.2.2 (R m) hRm]; exact hCe) ?_
      refine ialdN dX12_isKept_228 hG.a11 rfl (by omega) ?_
      refine topV (v := Kf (R m')) (hKf _ (by omega)) ?_
      refine iastN dX12_isKept_229 hG.a11 rfl (by omega) ?_
      refine storH (fun h5 e5 => ?_)
      refine aL0 dX12_isKept_230 ?_
      refine R_getR dX12_isKept_231 fX12_58.r hG.o rfl ?_
      refine iL3 dX12_isKept_234 ?_
      refine ialdN dX12_isKept_235 hG.a14 rfl (by omega) ?_
      refine topV (v := (((R m') : Nat) : Int)) (by rw [e5, updH_a (by omega), hL14, hH.2.2.2 (R m) hRm]; exact hCe) ?_
      refine iS3 dX12_isKept_236 ?_
      refine R_goto dX12_isKept_237 ?_
      exact ihq (by omega) _ m' _ (by rw [e5]; exact hO.upd rfl) (fun k hk => by
          rw [e5, updH_r]
          unfold updW
          split
          · rfl
          · exact hKf k hk) (hAU.step hB hm hm' hxe hxm) (by omega) (by omega)
  · refine aL0 dX12_isKept_10 ?_
    refine R_getR dX12_isKept_11 fX12_51.r hG.o rfl ?_
    refine iL3 dX12_isKept_14 ?_
    refine aL0 dX12_isKept_15 ?_
    refine R_getR dX12_isKept_16 fX12_55.r hG.o rfl ?_
    refine R_bipush dX12_isKept_19 (by decide) ?_
    refine iL1 dX12_isKept_21 ?_
    refine mulV dX12_isKept_22 (v := (((60 * c) : Nat) : Int)) (by rw [wid (by omega) (by omega)]; omega) ?_
    refine iL3 dX12_isKept_23 ?_
    refine addV dX12_isKept_24 (v := ((((60 * c) + k) : Nat) : Int)) (by rw [wid (by omega) (by omega)]; omega) ?_
    refine topV (v := (((60 * c + k) : Nat) : Int)) (rfl) ?_
    refine zaldN dX12_isKept_25 hG.a13 rfl (by omega) ?_
    refine topV (v := bI (my c k)) (by rw [hH.k13]; exact hMay c k hc (by omega)) ?_
    refine zastN dX12_isKept_26 hG.a12 rfl (by omega) (bI01 _) ?_
    refine storH (fun h6 e6 => ?_)
    refine aL0 dX12_isKept_27 ?_
    refine R_getR dX12_isKept_28 fX12_58.r hG.o rfl ?_
    refine iL3 dX12_isKept_31 ?_
    refine R_iconst_m1 dX12_isKept_32 ?_
    refine iastN dX12_isKept_33 hG.a14 rfl (by omega) ?_
    refine storH (fun h7 e7 => ?_)
    refine aL0 dX12_isKept_34 ?_
    refine R_getR dX12_isKept_35 fX12_51.r hG.o rfl ?_
    refine iL3 dX12_isKept_38 ?_
    refine zaldN dX12_isKept_39 hG.a12 rfl (by omega) ?_
    refine topV (v := bI (my c k)) (by rw [e7, e6]; first | (rw [updH_a (by omega), updH_s]; done) | exact updH_s _ _ _ _) ?_
    refine R_ifB_ne dX12_isKept_40 (fun hb40 => ?_) (fun hb40 => ?_)
    · have hTk : fsT my c k k = false := by simp [fsT]
      have hrl := hB.lt (by omega) hTk
      refine aL0 dX12_isKept_46 ?_
      refine R_getR dX12_isKept_47 fX12_61.r hG.o rfl ?_
      refine iL2 dX12_isKept_50 ?_
      refine iL3 dX12_isKept_51 ?_
      refine iastN dX12_isKept_52 hG.a15 rfl (by omega) ?_
      refine storH (fun h8 e8 => ?_)
      refine iInc2 dX12_isKept_53 (winc (by omega)) ?_
      refine iInc3 dX12_isKept_56 (winc (by omega)) ?_
      refine R_goto dX12_isKept_59 ?_
      exact ihk (by omega) _ (r + 1) (updN R r k) ((hB.add (v := -1) (by omega) hTk (Or.inl ⟨rfl, hb40⟩)).cong (fun _ _ => rfl) (fun j hj => by rw [fsT_s, hb40, Bool.and_true]) (fun m hm => by unfold updW; split <;> rfl)) ⟨by rw [e8, e7, e6]; exact ((hH.1.upd (Or.inl rfl)).upd (Or.inr (Or.inl rfl))).upd (Or.inr (Or.inr rfl)), fun m hm => by
          rw [e8, e7, e6]
          by_cases e8 : m = r
          · subst e8; rw [updH_s, updN_s]
          · rw [updH_i e8, updH_a (by omega), updH_a (by omega), updN_n e8]; exact hH.2.1 m (by omega), fun j hj => by
          rw [e8, e7, e6, updH_a (by omega), updH_a (by omega)]
          by_cases e8 : j = k
          · subst e8; exact updH_s _ _ _ _
          · rw [updH_i e8]; exact hH.2.2.1 j (by omega), fun j hj => by
          rw [e8, e7, e6, updH_a (by omega)]
          by_cases e8 : j = k
          · subst e8; exact updH_s _ _ _ _
          · rw [updH_i e8, updH_a (by omega)]; exact hH.2.2.2 j (by omega)⟩
    · refine R_goto dX12_isKept_43 ?_
      refine iInc3 dX12_isKept_56 (winc (by omega)) ?_
      refine R_goto dX12_isKept_59 ?_
      exact ihk (by omega) _ r R (hB.cong (fun _ _ => rfl) (fun j hj => by rw [fsT_s, hb40]; simp) (fun _ _ => rfl)) ⟨by rw [e7, e6]; exact (hH.1.upd (Or.inl rfl)).upd (Or.inr (Or.inl rfl)), fun m hm => by rw [e7, e6, updH_a (by omega), updH_a (by omega)]; exact hH.2.1 m hm, fun j hj => by
          rw [e7, e6, updH_a (by omega)]
          by_cases e8 : j = k
          · subst e8; exact updH_s _ _ _ _
          · rw [updH_i e8]; exact hH.2.2.1 j (by omega), fun j hj => by
          rw [e7, e6]
          by_cases e8 : j = k
          · subst e8; exact updH_s _ _ _ _
          · rw [updH_i e8, updH_a (by omega)]; exact hH.2.2.2 j (by omega)⟩
