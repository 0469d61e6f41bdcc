/-! READING, BY THE MODEL -/
def TpM (M : Nat) (h : Hc) (b : Nat → Int) (L p : Nat) : Prop := h M 10 = (p : Int) ∧ h M 11 = (L : Int) ∧ p ≤ L ∧ L ≤ 400 ∧ ∀ i, i < L → h (M + 6) i = wrapB (b i) ∧ (0 ≤ b i ∧ b i ≤ 255)
def MvM (M : Nat) (h h' : Hc) : Prop := ∀ a i, ¬ (a = M ∧ (i = 10 ∨ i = 12)) → h' a i = h a i
theorem MvM.rf {M : Nat} {h : Hc} : MvM M h h := fun _ _ _ => rfl
theorem MvM.tr {M : Nat} {h1 h2 h3 : Hc} (p : MvM M h1 h2) (q : MvM M h2 h3) : MvM M h1 h3 := fun a i n => (q a i n).trans (p a i n)
theorem MvM.up {M i : Nat} {h h' : Hc} {v : Int} (p : MvM M h h') (hi : i = 10 ∨ i = 12) : MvM M h (updH h' M i v) := by
  intro a j n
  by_cases e : a = M
  · subst e
    rw [updH_i (fun e2 => n ⟨rfl, by rw [e2]; exact hi⟩)]
    exact p a j n
  · rw [updH_a e]
    exact p a j n
theorem MvM.a {M a : Nat} {h h' : Hc} (p : MvM M h h') (ha : a ≠ M) : h' a = h a := funext fun i => p a i (fun q => ha q.1)
theorem TpM.pt {M : Nat} {h : Hc} {b : Nat → Int} {L p p' : Nat} (q : TpM M h b L p) (hp : p' ≤ L) : TpM M (updH h M 10 ((p' : Nat) : Int)) b L p' := ⟨updH_s _ _ _ _, by rw [updH_i (by decide)]; exact q.2.1, hp, q.2.2.2.1, fun i hi => by rw [updH_a (by omega)]; exact q.2.2.2.2 i hi⟩
theorem TpM.ot {M i : Nat} {h : Hc} {b : Nat → Int} {L p : Nat} {v : Int} (q : TpM M h b L p) (hi : i ≠ 10 ∧ i ≠ 11) : TpM M (updH h M i v) b L p := ⟨by rw [updH_i (Ne.symm hi.1)]; exact q.1, by rw [updH_i (Ne.symm hi.2)]; exact q.2.1, q.2.2.1, q.2.2.2.1, fun j hj => by rw [updH_a (by omega)]; exact q.2.2.2.2 j hj⟩
theorem TpM.wd {M i : Nat} {h : Hc} {b : Nat → Int} {L p : Nat} {v : Int} (q : TpM M h b L p) : TpM M (updH h (M + 1) i v) b L p := ⟨by rw [updH_a (by omega)]; exact q.1, by rw [updH_a (by omega)]; exact q.2.1, q.2.2.1, q.2.2.2.1, fun j hj => by rw [updH_a (by omega)]; exact q.2.2.2.2 j hj⟩
def atB (b : Nat → Int) (L p : Nat) (lo hi : Int) : Bool := decide (p < L) && (decide (lo ≤ b p) && decide (b p ≤ hi))
theorem atB_iff {b : Nat → Int} {L p : Nat} {lo hi : Int} : atB b L p lo hi = true ↔ p < L ∧ lo ≤ b p ∧ b p ≤ hi := by unfold atB; rw [Bool.and_eq_true, Bool.and_eq_true, decide_eq_true_iff, decide_eq_true_iff, decide_eq_true_iff]
theorem atB_t {b : Nat → Int} {L p : Nat} {lo hi : Int} (h : p < L ∧ lo ≤ b p ∧ b p ≤ hi) : atB b L p lo hi = true := atB_iff.mpr h
theorem atB_f {b : Nat → Int} {L p : Nat} {lo hi : Int} (h : ¬ (p < L ∧ lo ≤ b p ∧ b p ≤ hi)) : atB b L p lo hi = false := by
  cases q : atB b L p lo hi with
  | false => rfl
  | true => exact absurd (atB_iff.mp q) h
theorem atB_n {b : Nat → Int} {L p : Nat} {lo hi : Int} (h : atB b L p lo hi = false) : ¬ (p < L ∧ lo ≤ b p ∧ b p ≤ hi) := fun q => by rw [atB_t q] at h; exact absurd h (by decide)
section
variable {b : Nat → Int} {L p : Nat}
/-- the letters', the digits' end -/
def lsT (b : Nat → Int) (L s : Nat) : Nat := skL (fun i => isLB (b i)) L s
def dsT (b : Nat → Int) (L s : Nat) : Nat := skL (fun i => isDB (b i)) L s
theorem nx_go (h : atB b L p 32 32 = true) : nxT b L p = nxT b L (p + 1) := by
  have := atB_iff.mp h
  exact skL_t this.1 (isSB_t.mpr (by omega))
theorem nx_no (h : atB b L p 32 32 = false) : nxT b L p = p := by
  have := atB_n h
  by_cases q : p < L
  · exact skL_f (isSB_f.mpr (by omega))
  · exact skL_ge (by omega)
theorem ls_go (h : atB b L p 97 122 = true) : lsT b L p = lsT b L (p + 1) := by
  have := atB_iff.mp h
  exact skL_t this.1 (isLB_t.mpr (by omega))
theorem ls_no (h : atB b L p 97 122 = false) : lsT b L p = p := by
  have := atB_n h
  by_cases q : p < L
  · exact skL_f (isLB_f.mpr (by omega))
  · exact skL_ge (by omega)
theorem ds_go (h : atB b L p 48 57 = true) : dsT b L p = dsT b L (p + 1) := by
  have := atB_iff.mp h
  exact skL_t this.1 (isDB_t.mpr (by omega))
theorem ds_no (h : atB b L p 48 57 = false) : dsT b L p = p := by
  have := atB_n h
  by_cases q : p < L
  · exact skL_f (isDB_f.mpr (by omega))
  · exact skL_ge (by omega)
end
/-- the k-th thing is next; behind blanks; behind letters -/
abbrev KnT (b : Nat → Int) (L k : Nat) : Prop := ∀ i, i < k → stT b L i < L
def StM (M : Nat) (h : Hc) (b : Nat → Int) (L k : Nat) : Prop := ∃ p, TpM M h b L p ∧ nxT b L p = stT b L k ∧ KnT b L k
def BeM (M : Nat) (h : Hc) (b : Nat → Int) (L k : Nat) : Prop := TpM M h b L (stT b L k) ∧ h M 12 = ((stT b L k : Nat) : Int) ∧ KnT b L k
def LeM (M : Nat) (h : Hc) (b : Nat → Int) (L k : Nat) : Prop := TpM M h b L (lsT b L (stT b L k)) ∧ h M 12 = ((stT b L k : Nat) : Int) ∧ KnT b L k
abbrev WrM (M : Nat) (h : Hc) (b : Nat → Int) (L f : Nat) : Prop := h M 12 = ((stT b L f : Nat) : Int)
theorem KnT.s {b : Nat → Int} {L k : Nat} (q : KnT b L k) (h : stT b L k < L) : KnT b L (k + 1) := fun i hi => by
  by_cases e : i = k
  · rw [e]; exact h
  · exact q i (by omega)
theorem KnT.le {b : Nat → Int} {L k : Nat} (q : KnT b L k) : k ≤ stT b L k := by
  induction k with
  | zero => exact Nat.zero_le _
  | succ k ih =>
    have h1 := ih (fun i hi => q i (by omega))
    have h2 := stT_lt (q k (by omega))
    omega
theorem StM.kn {M : Nat} {h : Hc} {b : Nat → Int} {L k : Nat} (q : StM M h b L k) : k ≤ 400 := by
  obtain ⟨p, h1, _, h3⟩ := q
  have := h3.le
  have := stT_le (b := b) (L := L) k
  have := h1.2.2.2.1
  omega
theorem BeM.kn {M : Nat} {h : Hc} {b : Nat → Int} {L k : Nat} (q : BeM M h b L k) : k ≤ 400 := by
  have := q.2.2.le
  have := q.1.2.2.1
  have := q.1.2.2.2.1
  omega
theorem LeM.kn {M : Nat} {h : Hc} {b : Nat → Int} {L k : Nat} (q : LeM M h b L k) : k ≤ 400 := by
  have := q.2.2.le
  have := stT_le (b := b) (L := L) k
  have := q.1.2.2.2.1
  omega
theorem BeM.st {M : Nat} {h : Hc} {b : Nat → Int} {L k : Nat} (q : BeM M h b L k) : StM M h b L k := ⟨_, q.1, stT_nx k, q.2.2⟩
theorem sB_w : ∀ i : Fin 24, sBi (i.val + 1) = wds.getD ([10, 2, 1, 11, 4, 5, 16, 0, 12, 13, 14, 6, 15, 3, 7, 8, 9, 23, 22, 21, 17, 18, 19, 20].getD i.val 0) [] := by decide +kernel
theorem wds_len : ∀ j : Fin 30, 0 < (wds.getD j.val []).length := by decide +kernel
theorem ls_en {b : Nat → Int} {L s : Nat} (h : s < L) (hl : isLB (b s) = true) : enT b L s = lsT b L s := enT_l h hl
theorem ds_en {b : Nat → Int} {L s : Nat} (h : s < L) (hl : isDB (b s) = true) : enT b L s = dsT b L s := enT_d h hl
/-- a word stands there -/
theorem th_w {b : Nat → Int} {L k j : Nat} (h0 : ∀ i, i < L → 0 ≤ b i ∧ b i ≤ 255) (hj : j < 30) : thT b L k = 1000 + (j : Int) ↔ runEq b (lsT b L (stT b L k)) (wds.getD j []) (stT b L k) = true := by
  have hle := stT_le (b := b) (L := L) k
  have hpos := wds_len ⟨j, hj⟩
  simp only at hpos
  by_cases h : stT b L k < L ∧ isLB (b (stT b L k)) = true
  · have := thS_w (b := b) (L := L) hj h.1 h.2
    rw [ls_en h.1 h.2] at this
    exact this
  · have e1 : lsT b L (stT b L k) = stT b L k := by
      by_cases q : stT b L k < L
      · exact skL_f (Bool.eq_false_iff.mpr (fun q2 => h ⟨q, q2⟩))
      · exact skL_ge (by omega)
    rw [e1]
    constructor
    · intro h2
      exfalso
      unfold thT at h2
      rcases thS_cases b L (stT b L k) with ⟨_, q⟩ | ⟨q0, q1, _⟩ | ⟨_, _, _, ⟨_, q⟩ | ⟨_, _, q1, q2⟩⟩ | ⟨q1, _, _, q⟩
      · omega
      · exact h ⟨q0, q1⟩
      · omega
      · omega
      · have := h0 _ q1
        omega
    · intro h2
      have := ((runEq_iff _ _).mp h2).1
      omega
theorem TpM.b0 {M : Nat} {h : Hc} {b : Nat → Int} {L p : Nat} (q : TpM M h b L p) : ∀ i, i < L → 0 ≤ b i ∧ b i ≤ 255 := fun i hi => (q.2.2.2.2 i hi).2
theorem LeM.st {M : Nat} {h : Hc} {b : Nat → Int} {L k : Nat} (q : LeM M h b L k) (h1 : 1000 ≤ thT b L k) (h2 : thT b L k < 1030) : StM M h b L (k + 1) := by
  have hle := stT_le (b := b) (L := L) k
  have hb := q.1.b0
  have hk : stT b L k < L ∧ isLB (b (stT b L k)) = true := by
    unfold thT at h1 h2
    rcases thS_cases b L (stT b L k) with ⟨_, q⟩ | ⟨q0, q1, _⟩ | ⟨_, _, _, ⟨_, q⟩ | ⟨_, _, q1, q2⟩⟩ | ⟨q1, _, _, q⟩
    · omega
    · exact ⟨q0, q1⟩
    · omega
    · omega
    · have := hb _ q1
      omega
  refine ⟨_, q.1, ?_, q.2.2.s hk.1⟩
  rw [← ls_en hk.1 hk.2]
  rfl
/-- back to the thing's start -/
theorem LeM.bk {M : Nat} {h : Hc} {b : Nat → Int} {L k : Nat} (q : LeM M h b L k) : BeM M (updH h M 10 ((stT b L k : Nat) : Int)) b L k := ⟨q.1.pt (stT_le k), by rw [updH_i (by decide)]; exact q.2.1, q.2.2⟩
/-- a sign stands there -/
theorem th_s {b : Nat → Int} {L k : Nat} {c : Int} (h0 : ∀ i, i < L → 0 ≤ b i ∧ b i ≤ 255) (hc : (33 ≤ c ∧ c ≤ 127) ∧ isLB c = false ∧ isDB c = false) : thT b L k = 2000 + c ↔ atB b L (stT b L k) c c = true := by
  unfold thT
  constructor
  · intro h
    rcases thS_cases b L (stT b L k) with ⟨_, q⟩ | ⟨_, _, q | ⟨i, q1, q⟩⟩ | ⟨_, _, _, ⟨_, q⟩ | ⟨_, _, q1, q2⟩⟩ | ⟨q1, _, _, q⟩
    · omega
    · omega
    · omega
    · omega
    · omega
    · exact atB_t ⟨q1, by omega, by omega⟩
  · intro h
    have h1 := atB_iff.mp h
    have e : b (stT b L k) = c := by omega
    rw [thS_g h1.1 (by rw [e]; exact hc.2.1) (by rw [e]; exact hc.2.2), e]
theorem en_s {b : Nat → Int} {L k : Nat} {c : Int} (hc : (33 ≤ c ∧ c ≤ 127) ∧ isLB c = false ∧ isDB c = false) (h : atB b L (stT b L k) c c = true) : nxT b L (stT b L k + 1) = stT b L (k + 1) := by
  have h1 := atB_iff.mp h
  have e : b (stT b L k) = c := by omega
  rw [← enT_s (b := b) h1.1 (by rw [e]; exact hc.2.1) (by rw [e]; exact hc.2.2)]
  rfl
/-- a number: what is read of q digits -/
theorem th_d0 {b : Nat → Int} {L k : Nat} (h0 : ∀ i, i < L → 0 ≤ b i ∧ b i ≤ 255) (h : dsT b L (stT b L k) = stT b L k) : ¬ (0 ≤ thT b L k ∧ thT b L k ≤ 999) := by
  unfold thT
  rcases thS_cases b L (stT b L k) with ⟨_, q⟩ | ⟨_, _, q | ⟨i, q1, q⟩⟩ | ⟨q0, _, q1, _⟩ | ⟨q1, _, _, q⟩
  · omega
  · omega
  · omega
  · exfalso
    have h1 := (enT_gt (b := b) q0).1
    rw [ds_en q0 q1] at h1
    omega
  · have := h0 _ q1
    omega
theorem th_d {b : Nat → Int} {L k q : Nat} (h : dsT b L (stT b L k) = stT b L k + q) (hq : 0 < q) : stT b L k < L ∧ enT b L (stT b L k) = stT b L k + q ∧ thT b L k = if 3 < q then 3000 else nuB b (stT b L k) q := by
  have hle := stT_le (b := b) (L := L) k
  have h1 : stT b L k < L := by
    refine Nat.lt_of_le_of_ne hle fun e => ?_
    unfold dsT at h
    rw [skL_ge (by omega)] at h
    omega
  have h2 : isDB (b (stT b L k)) = true := by
    cases e : isDB (b (stT b L k)) with
    | true => rfl
    | false =>
      unfold dsT at h
      rw [skL_f (q := fun i => isDB (b i)) e] at h
      omega
  have h3 : enT b L (stT b L k) = stT b L k + q := by rw [ds_en h1 h2]; exact h
  refine ⟨h1, h3, ?_⟩
  unfold thT
  rw [thS_d h1 (ld_no h2) h2, h3, show stT b L k + q - stT b L k = q by omega]
/-- a letter of the kinds -/
theorem th_c {b : Nat → Int} {L k : Nat} (h0 : ∀ i, i < L → 0 ≤ b i ∧ b i ≤ 255) : (1024 ≤ thT b L k ∧ thT b L k ≤ 1029) ↔ (lsT b L (stT b L k) = stT b L k + 1 ∧ b (stT b L k) < 103) := by
  have hle := stT_le (b := b) (L := L) k
  have hw : ∀ j, j < 6 → wds.getD (24 + j) [] = [97 + (j : Int)] := by decide
  constructor
  · intro h
    obtain ⟨j, hj⟩ : ∃ j : Nat, thT b L k = 1000 + (((24 + j : Nat)) : Int) := ⟨(thT b L k - 1024).toNat, by omega⟩
    have h1 := (th_w h0 (by omega)).mp hj
    rw [hw j (by omega)] at h1
    obtain ⟨e1, e2⟩ := (runEq_iff _ _).mp h1
    have e3 := e2 0 Nat.one_pos
    refine ⟨e1, ?_⟩
    rw [Nat.add_zero] at e3
    rw [e3]
    show 97 + (j : Int) < 103
    omega
  · intro ⟨e1, e2⟩
    have hs : stT b L k < L := by
      refine Nat.lt_of_le_of_ne hle fun e => ?_
      unfold lsT at e1
      rw [skL_ge (by omega)] at e1
      omega
    have hl : isLB (b (stT b L k)) = true := by
      cases e : isLB (b (stT b L k)) with
      | true => rfl
      | false =>
        unfold lsT at e1
        rw [skL_f (q := fun i => isLB (b i)) e] at e1
        omega
    have hb := isLB_t.mp hl
    obtain ⟨j, hj⟩ : ∃ j : Nat, b (stT b L k) = 97 + (j : Int) := ⟨(b (stT b L k) - 97).toNat, by omega⟩
    have h3 : thT b L k = 1000 + (((24 + j : Nat)) : Int) := (th_w h0 (by omega)).mpr (by
      rw [hw j (by omega), e1]
      refine (runEq_iff _ _).mpr ⟨rfl, fun i hi => ?_⟩
      have hi0 : i = 0 := Nat.lt_one_iff.mp hi
      subst hi0
      exact hj)
    omega
theorem th_ck {b : Nat → Int} {L k : Nat} (h0 : ∀ i, i < L → 0 ≤ b i ∧ b i ≤ 255) (h : 1024 ≤ thT b L k ∧ thT b L k ≤ 1029) : thT b L k - 1024 = b (stT b L k) - 97 := by
  have hw : ∀ j, j < 6 → wds.getD (24 + j) [] = [97 + (j : Int)] := by decide
  obtain ⟨j, hj⟩ : ∃ j : Nat, thT b L k = 1000 + (((24 + j : Nat)) : Int) := ⟨(thT b L k - 1024).toNat, by omega⟩
  have h1 := (th_w h0 (by omega)).mp hj
  rw [hw j (by omega)] at h1
  have e3 := ((runEq_iff _ _).mp h1).2 0 Nat.one_pos
  rw [Nat.add_zero] at e3
  rw [e3, hj]
  show 1000 + ((24 + j : Nat) : Int) - 1024 = 97 + (j : Int) - 97
  omega
set_option maxHeartbeats 400000 in
theorem C_X12_isAt {d : Nat} {g : Gs} {h : Hc} {P : Po} {M : Nat} (hG : MdG g M) {b : Nat → Int} {L : Nat} {p : Nat} (hT : TpM M h b L p) {lo hi : Int} (hlo : 0 ≤ lo) (hhi : hi ≤ 127) (K : P (.inl (some (vI (bI (atB b L p lo hi))))) g h) : Call (d + 0) 0 0 mX12_isAt [vR M, vI lo, vI hi] g h P := by
  have hpl := hT.2.2.1
  have hl4 := hT.2.2.2.1
  refine Call_of rfl ⟨by decide +kernel, rfl⟩ (Nat.le_of_ble_eq_true rfl) rfl ?_
  refine aL0 dX12_isAt_0 ?_
  refine R_getI dX12_isAt_1 fX12_109.r hG.o ?_
  refine topV (v := ((p : Nat) : Int)) (hT.1) ?_
  refine aL0 dX12_isAt_4 ?_
  refine R_getI dX12_isAt_5 fX12_112.r hG.o ?_
  refine topV (v := ((L : Nat) : Int)) (hT.2.1) ?_
  refine R_icmp_ge dX12_isAt_8 (fun hb8 => ?_) (fun hb8 => ?_)
  · refine R_iconst_0 dX12_isAt_41 ?_
    exact R_zret dX12_isAt_42 rfl (by decide) (PeqI K (by rw [atB_f (by omega)]; rfl))
  · refine aL0 dX12_isAt_11 ?_
    refine R_getR dX12_isAt_12 fX12_29.r hG.o rfl ?_
    refine aL0 dX12_isAt_15 ?_
    refine R_getI dX12_isAt_16 fX12_109.r hG.o ?_
    refine topV (v := ((p : Nat) : Int)) (hT.1) ?_
    refine baldN dX12_isAt_19 hG.a6 rfl (by omega) ?_
    refine topV (v := wrapB (b p)) ((hT.2.2.2.2 p (by omega)).1) ?_
    have hq1 := wrapB_r (hT.2.2.2.2 p (by omega)).2
    refine iL1 dX12_isAt_20 ?_
    refine R_icmp_lt dX12_isAt_21 (fun hb21 => ?_) (fun hb21 => ?_)
    · refine R_iconst_0 dX12_isAt_41 ?_
      exact R_zret dX12_isAt_42 rfl (by decide) (PeqI K (by rw [atB_f (by omega)]; rfl))
    · refine aL0 dX12_isAt_24 ?_
      refine R_getR dX12_isAt_25 fX12_29.r hG.o rfl ?_
      refine aL0 dX12_isAt_28 ?_
      refine R_getI dX12_isAt_29 fX12_109.r hG.o ?_
      refine topV (v := ((p : Nat) : Int)) (hT.1) ?_
      refine baldN dX12_isAt_32 hG.a6 rfl (by omega) ?_
      refine topV (v := wrapB (b p)) ((hT.2.2.2.2 p (by omega)).1) ?_
      have hq2 := wrapB_r (hT.2.2.2.2 p (by omega)).2
      refine iL2 dX12_isAt_33 ?_
      refine R_icmp_gt dX12_isAt_34 (fun hb34 => ?_) (fun hb34 => ?_)
      · refine R_iconst_0 dX12_isAt_41 ?_
        exact R_zret dX12_isAt_42 rfl (by decide) (PeqI K (by rw [atB_f (by omega)]; rfl))
      · refine R_iconst_1 dX12_isAt_37 ?_
        refine R_goto dX12_isAt_38 ?_
        exact R_zret dX12_isAt_42 rfl (by decide) (PeqI K (by rw [atB_t ⟨by omega, by omega, by omega⟩]; rfl))
set_option maxHeartbeats 400000 in
theorem C_X12_blanks {d : Nat} {g : Gs} {h : Hc} {P : Po} {M : Nat} (hG : MdG g M) {b : Nat → Int} {L : Nat} {p : Nat} (hT : TpM M h b L p) (K : ∀ h', MvM M h h' → TpM M h' b L (nxT b L p) → h' M 12 = ((nxT b L p : Nat) : Int) → P (.inl none) g h') : Call (d + 1) 0 0 mX12_blanks [vR M] g h P := by
  have hpl := hT.2.2.1
  have hl4 := hT.2.2.2.1
  refine Call_of rfl ⟨by decide +kernel, rfl⟩ (Nat.le_of_ble_eq_true rfl) rfl ?_
  refine loopN (L - p) (fun q => ∀ hh : Hc, MvM M h hh → TpM M hh b L (p + q) → nxT b L (p + q) = nxT b L p → Run (d + 1) 0 0 mX12_blanks 0 [vR M] [] g hh P) (fun q hcq ihq hh hm hT2 hn => ?_) 0 (Nat.zero_le _) h MvM.rf hT rfl
  refine aL0 dX12_blanks_0 ?_
  refine R_bipush dX12_blanks_1 (by decide) ?_
  refine R_bipush dX12_blanks_3 (by decide) ?_
  refine invV2 rfl dX12_blanks_5 kX12_115 hG.o (Nat.le_of_ble_eq_true rfl) (Nat.zero_le _) (Nat.zero_le _) (C_X12_isAt hG hT2 (by decide) (by decide) (konI ?_))
  refine R_ifB_eq dX12_blanks_8 (fun hb8 => ?_) (fun hb8 => ?_)
  · have e9 := (nx_no hb8).symm.trans hn
    refine aL0 dX12_blanks_24 ?_
    refine aL0 dX12_blanks_25 ?_
    refine R_getI dX12_blanks_26 fX12_109.r hG.o ?_
    refine topV (v := (((p + q) : Nat) : Int)) (hT2.1) ?_
    refine R_putI dX12_blanks_29 fX12_119 hG.o ?_
    exact R_vret dX12_blanks_32 rfl (K _ (hm.up (Or.inr rfl)) (by rw [← e9]; exact hT2.ot (by decide)) (by rw [← e9]; exact updH_s _ _ _ _))
  · refine aL0 dX12_blanks_11 ?_
    refine dupR dX12_blanks_12 ?_
    refine R_getI dX12_blanks_13 fX12_109.r hG.o ?_
    refine topV (v := (((p + q) : Nat) : Int)) (hT2.1) ?_
    refine R_iconst_1 dX12_blanks_16 ?_
    refine addV dX12_blanks_17 (v := ((((p + q) + 1) : Nat) : Int)) (by rw [wid (by omega) (by omega)]; omega) ?_
    refine R_putI dX12_blanks_18 fX12_109 hG.o ?_
    refine R_goto dX12_blanks_21 ?_
    exact ihq (by have := (atB_iff.mp hb8).1; omega) _ (hm.up (Or.inl rfl)) (hT2.pt (by have := (atB_iff.mp hb8).1; omega)) ((nx_go hb8).symm.trans hn)
set_option maxHeartbeats 400000 in
theorem C_X12_letters {d : Nat} {g : Gs} {h : Hc} {P : Po} {M : Nat} (hG : MdG g M) {b : Nat → Int} {L : Nat} {p : Nat} (hT : TpM M h b L p) (K : ∀ h', MvM M h h' → TpM M h' b L (lsT b L (nxT b L p)) → h' M 12 = ((nxT b L p : Nat) : Int) → P (.inl none) g h') : Call (d + 2) 0 0 mX12_letters [vR M] g h P := by
  have hpl := hT.2.2.1
  have hl4 := hT.2.2.2.1
  refine Call_of rfl ⟨by decide +kernel, rfl⟩ (Nat.le_of_ble_eq_true rfl) rfl ?_
  refine aL0 dX12_letters_0 ?_
  refine invV0 rfl dX12_letters_1 kX12_122 hG.o (Nat.le_of_ble_eq_true rfl) (Nat.zero_le _) (Nat.zero_le _) (C_X12_blanks hG hT (fun h1 hm1 hT1 hB1 => konV ?_))
  obtain ⟨s, hs⟩ : ∃ s, nxT b L p = s := ⟨_, rfl⟩
  rw [hs] at hT1 hB1
  have hsl := hT1.2.2.1
  refine loopN (L - s) (fun q => ∀ hh : Hc, MvM M h hh → TpM M hh b L (s + q) → hh M 12 = ((s : Nat) : Int) → lsT b L (s + q) = lsT b L s → Run (d + 2) 0 0 mX12_letters 4 [vR M] [] g hh P) (fun q hcq ihq hh hm hT2 hB2 hn => ?_) 0 (Nat.zero_le _) h1 hm1 hT1 hB1 rfl
  refine aL0 dX12_letters_4 ?_
  refine R_bipush dX12_letters_5 (by decide) ?_
  refine R_bipush dX12_letters_7 (by decide) ?_
  refine invV2 rfl dX12_letters_9 kX12_115 hG.o (Nat.le_of_ble_eq_true rfl) (Nat.zero_le _) (Nat.zero_le _) (C_X12_isAt hG hT2 (by decide) (by decide) (konI ?_))
  refine R_ifB_eq dX12_letters_12 (fun hb12 => ?_) (fun hb12 => ?_)
  · have e9 := (ls_no hb12).symm.trans hn
    exact R_vret dX12_letters_28 rfl (K _ hm (by rw [hs, ← e9]; exact hT2) (by rw [hs]; exact hB2))
  · refine aL0 dX12_letters_15 ?_
    refine dupR dX12_letters_16 ?_
    refine R_getI dX12_letters_17 fX12_109.r hG.o ?_
    refine topV (v := (((s + q) : Nat) : Int)) (hT2.1) ?_
    refine R_iconst_1 dX12_letters_20 ?_
    refine addV dX12_letters_21 (v := ((((s + q) + 1) : Nat) : Int)) (by rw [wid (by omega) (by omega)]; omega) ?_
    refine R_putI dX12_letters_22 fX12_109 hG.o ?_
    refine R_goto dX12_letters_25 ?_
    exact ihq (by have := (atB_iff.mp hb12).1; omega) _ (hm.up (Or.inl rfl)) (hT2.pt (by have := (atB_iff.mp hb12).1; omega)) (by rw [updH_i (by decide)]; exact hB2) ((ls_go hb12).symm.trans hn)
theorem C_blanks {d : Nat} {g : Gs} {h : Hc} {P : Po} {M : Nat} (hG : MdG g M) {b : Nat → Int} {L k : Nat} (hT : StM M h b L k) (K : ∀ h', MvM M h h' → BeM M h' b L k → P (.inl none) g h') : Call (d + 1) 0 0 mX12_blanks [vR M] g h P := by
  obtain ⟨p, h1, h2, h3⟩ := hT
  exact C_X12_blanks hG h1 (fun h' m t z => K h' m ⟨by rw [← h2]; exact t, by rw [← h2]; exact z, h3⟩)
theorem C_letters {d : Nat} {g : Gs} {h : Hc} {P : Po} {M : Nat} (hG : MdG g M) {b : Nat → Int} {L k : Nat} (hT : StM M h b L k) (K : ∀ h', MvM M h h' → LeM M h' b L k → P (.inl none) g h') : Call (d + 2) 0 0 mX12_letters [vR M] g h P := by
  obtain ⟨p, h1, h2, h3⟩ := hT
  exact C_X12_letters hG h1 (fun h' m t z => K h' m ⟨by rw [← h2]; exact t, by rw [← h2]; exact z, h3⟩)
theorem rq_0 (b : Nat → Int) (e : Nat) (c : List Int) (s : Nat) : (decide (e = s + c.length) && runEq b e (c.drop 0) (s + 0)) = runEq b e c s := by
  rw [List.drop_zero, Nat.add_zero]
  cases q : runEq b e c s with
  | false => exact Bool.and_false _
  | true => rw [decide_eq_true ((runEq_iff _ _).mp q).1]; rfl
theorem rq_s {b : Nat → Int} {e : Nat} {c : List Int} {s q : Nat} (hq : q < c.length) (h : s + q < e) : (true && runEq b e (c.drop q) (s + q)) = (decide (b (s + q) = c.getD q 0) && runEq b e (c.drop (q + 1)) (s + (q + 1))) := by
  rw [List.drop_eq_getElem_cons hq, Bool.true_and, show c.getD q 0 = c[q] by rw [List.getD_eq_getElem?_getD, List.getElem?_eq_getElem hq]; rfl]
  show (decide (s + q < e) && decide (b (s + q) = c[q]) && runEq b e (c.drop (q + 1)) (s + q + 1)) = _
  rw [decide_eq_true h, Bool.true_and]
  rfl
theorem rq_e {b : Nat → Int} {e : Nat} {c : List Int} {s q : Nat} (hq : c.length ≤ q) (h : e = s + q) : (1 : Int) = bI (true && runEq b e (c.drop q) (s + q)) := by
  rw [List.drop_eq_nil_of_le hq, Bool.true_and]
  unfold runEq
  rw [decide_eq_true h.symm]
  rfl
set_option maxHeartbeats 400000 in
theorem C_X12_isWord {d : Nat} {g : Gs} {h : Hc} {P : Po} {M : Nat} (hG : MdG g M) {b : Nat → Int} {L : Nat} {e s i : Nat} (hT : TpM M h b L e) (hS : h M 12 = (s : Int)) (hse : s ≤ e) (hi : i < 25) (K : P (.inl (some (vI (bI (runEq b e (sBi i) s))))) g h) : Call (d + 4) 0 0 mX12_isWord [vR M, vX (i + 1)] g h P := by
  have hel := hT.2.2.1
  have hl4 := hT.2.2.2.1
  have hlt9 := sB_lt0 ⟨i, hi⟩
  simp only at hlt9
  refine Call_of rfl ⟨by decide +kernel, rfl⟩ (Nat.le_of_ble_eq_true rfl) rfl ?_
  refine aL0 dX12_isWord_0 ?_
  refine R_getI dX12_isWord_1 fX12_109.r hG.o ?_
  refine topV (v := ((e : Nat) : Int)) (hT.1) ?_
  refine aL0 dX12_isWord_4 ?_
  refine R_getI dX12_isWord_5 fX12_119.r hG.o ?_
  refine topV (v := ((s : Nat) : Int)) (hS) ?_
  refine subV dX12_isWord_8 (wid (by omega) (by omega)) ?_
  refine xL1 dX12_isWord_9 ?_
  refine invT0 (i := i) rfl dX12_isWord_10 kSRX12_125 hi (Nat.le_of_ble_eq_true rfl) (Nat.zero_le _) (Nat.zero_le _) (C_J0_length_8abf5 hi (konI ?_))
  suffices J1 : Run (d + 4) 0 0 mX12_isWord 21 [vR M, vX (i + 1), vU, vU] [vI (bI (decide (e = s + (sBi i).length)))] g h P by
    refine R_icmp_ne dX12_isWord_13 (fun hb13 => ?_) (fun hb13 => ?_)
    · refine R_iconst_0 dX12_isWord_20 ?_
      exact topV (v := bI (decide (e = s + (sBi i).length))) (by first | (rw [decide_eq_true (show e = s + (sBi i).length by omega)]; rfl) | (rw [decide_eq_false (show ¬ e = s + (sBi i).length by omega)]; rfl)) J1
    · refine R_iconst_1 dX12_isWord_16 ?_
      refine R_goto dX12_isWord_17 ?_
      exact topV (v := bI (decide (e = s + (sBi i).length))) (by first | (rw [decide_eq_true (show e = s + (sBi i).length by omega)]; rfl) | (rw [decide_eq_false (show ¬ e = s + (sBi i).length by omega)]; rfl)) J1
  refine iS2 dX12_isWord_21 ?_
  refine R_iconst_0 dX12_isWord_22 ?_
  refine iS3 dX12_isWord_23 ?_
  refine loopN (sBi i).length (fun q => ∀ m : Bool, (m = true → e = s + (sBi i).length) → (m && runEq b e ((sBi i).drop q) (s + q)) = runEq b e (sBi i) s → Run (d + 4) 0 0 mX12_isWord 24 [vR M, vX (i + 1), vI (bI (m)), vI ((q : Nat) : Int)] [] g h P) (fun q hcq ihq m hme hr => ?_) 0 (Nat.zero_le _) _ (fun q => of_decide_eq_true q) (rq_0 b e (sBi i) s)
  refine iL2 dX12_isWord_24 ?_
  refine R_ifB_eq dX12_isWord_25 (fun hb25 => ?_) (fun hb25 => ?_)
  · have hmm := hb25
    subst hmm
    refine iL2 dX12_isWord_67 ?_
    exact R_zret dX12_isWord_68 rfl (bI01 _) (PeqI K (by rw [← hr]; first | exact rfl | exact rq_e (by omega) (by omega)))
  · have hmm := hb25
    subst hmm
    have hme := hme rfl
    refine iL3 dX12_isWord_28 ?_
    refine xL1 dX12_isWord_29 ?_
    refine invT0 (i := i) rfl dX12_isWord_30 kSRX12_125 hi (Nat.le_of_ble_eq_true rfl) (Nat.zero_le _) (Nat.zero_le _) (C_J0_length_8abf5 hi (konI ?_))
    refine R_icmp_ge dX12_isWord_33 (fun hb33 => ?_) (fun hb33 => ?_)
    · refine iL2 dX12_isWord_67 ?_
      exact R_zret dX12_isWord_68 rfl (bI01 _) (PeqI K (by rw [← hr]; first | exact rfl | exact rq_e (by omega) (by omega)))
    · refine aL0 dX12_isWord_36 ?_
      refine R_getR dX12_isWord_37 fX12_29.r hG.o rfl ?_
      refine aL0 dX12_isWord_40 ?_
      refine R_getI dX12_isWord_41 fX12_119.r hG.o ?_
      refine topV (v := ((s : Nat) : Int)) (hS) ?_
      refine iL3 dX12_isWord_44 ?_
      refine addV dX12_isWord_45 (v := (((s + q) : Nat) : Int)) (by rw [wid (by omega) (by omega)]; omega) ?_
      refine baldN dX12_isWord_46 hG.a6 rfl (by omega) ?_
      refine topV (v := wrapB (b (s + q))) ((hT.2.2.2.2 (s + q) (by omega)).1) ?_
      have hq2 := wrapB_r (hT.2.2.2.2 (s + q) (by omega)).2
      refine xL1 dX12_isWord_47 ?_
      refine iL3 dX12_isWord_48 ?_
      refine invT1 (i := i) rfl dX12_isWord_49 kSRX12_130 hi (Nat.le_of_ble_eq_true rfl) (Nat.zero_le _) (Nat.zero_le _) (C_J0_charAt_5068e hi (by omega) (by omega) (konI ?_))
      refine topV (v := (sBi i).getD q 0) rfl ?_
      have hrg := sB_rng (j := q) hi
      suffices J3 : Run (d + 4) 0 0 mX12_isWord 60 [vR M, vX (i + 1), vI (bI (true)), vI ((q : Nat) : Int)] [vI (bI (decide (b (s + q) = (sBi i).getD q 0)))] g h P by
        refine R_icmp_ne dX12_isWord_52 (fun hb52 => ?_) (fun hb52 => ?_)
        · refine R_iconst_0 dX12_isWord_59 ?_
          exact topV (v := bI (decide (b (s + q) = (sBi i).getD q 0))) (by first | (rw [decide_eq_true (show b (s + q) = (sBi i).getD q 0 by omega)]; rfl) | (rw [decide_eq_false (show ¬ b (s + q) = (sBi i).getD q 0 by omega)]; rfl)) J3
        · refine R_iconst_1 dX12_isWord_55 ?_
          refine R_goto dX12_isWord_56 ?_
          exact topV (v := bI (decide (b (s + q) = (sBi i).getD q 0))) (by first | (rw [decide_eq_true (show b (s + q) = (sBi i).getD q 0 by omega)]; rfl) | (rw [decide_eq_false (show ¬ b (s + q) = (sBi i).getD q 0 by omega)]; rfl)) J3
      refine iS2 dX12_isWord_60 ?_
      refine iInc3 dX12_isWord_61 (winc (by omega)) ?_
      refine R_goto dX12_isWord_64 ?_
      exact ihq (by omega) _ (fun _ => hme) (by rw [← hr]; exact (rq_s (by omega) (by omega)).symm)
theorem bI_th {t : Int} {j : Nat} {r : Bool} (h : t = 1000 + (j : Int) ↔ r = true) : bI (decide (t = 1000 + (j : Int))) = bI r := by
  cases r with
  | true => rw [decide_eq_true (h.mpr rfl)]
  | false => rw [decide_eq_false (fun q => absurd (h.mp q) (by decide))]
theorem C_isWord {d : Nat} {g : Gs} {h : Hc} {P : Po} {M : Nat} (hG : MdG g M) {b : Nat → Int} {L k : Nat} (hT : LeM M h b L k) (i j : Nat) (hi : i < 25) (hj : j < 30) (hw : sBi i = wds.getD j []) (K : P (.inl (some (vI (bI (decide (thT b L k = 1000 + (j : Int))))))) g h) : Call (d + 4) 0 0 mX12_isWord [vR M, vX (i + 1)] g h P := by
  refine C_X12_isWord hG hT.1 hT.2.1 (skL_lo _ _ _) hi ?_
  rw [bI_th (th_w hT.1.b0 hj)] at K
  rw [hw]
  exact K
theorem sw_1 : sBi 1 = wds.getD 10 [] := sB_w ⟨0, by decide⟩
theorem sw_2 : sBi 2 = wds.getD 2 [] := sB_w ⟨1, by decide⟩
theorem sw_3 : sBi 3 = wds.getD 1 [] := sB_w ⟨2, by decide⟩
theorem sw_4 : sBi 4 = wds.getD 11 [] := sB_w ⟨3, by decide⟩
theorem sw_5 : sBi 5 = wds.getD 4 [] := sB_w ⟨4, by decide⟩
theorem sw_6 : sBi 6 = wds.getD 5 [] := sB_w ⟨5, by decide⟩
theorem sw_7 : sBi 7 = wds.getD 16 [] := sB_w ⟨6, by decide⟩
theorem sw_8 : sBi 8 = wds.getD 0 [] := sB_w ⟨7, by decide⟩
theorem sw_9 : sBi 9 = wds.getD 12 [] := sB_w ⟨8, by decide⟩
theorem sw_10 : sBi 10 = wds.getD 13 [] := sB_w ⟨9, by decide⟩
theorem sw_11 : sBi 11 = wds.getD 14 [] := sB_w ⟨10, by decide⟩
theorem sw_12 : sBi 12 = wds.getD 6 [] := sB_w ⟨11, by decide⟩
theorem sw_13 : sBi 13 = wds.getD 15 [] := sB_w ⟨12, by decide⟩
theorem sw_14 : sBi 14 = wds.getD 3 [] := sB_w ⟨13, by decide⟩
theorem sw_15 : sBi 15 = wds.getD 7 [] := sB_w ⟨14, by decide⟩
theorem sw_16 : sBi 16 = wds.getD 8 [] := sB_w ⟨15, by decide⟩
theorem sw_17 : sBi 17 = wds.getD 9 [] := sB_w ⟨16, by decide⟩
theorem sw_18 : sBi 18 = wds.getD 23 [] := sB_w ⟨17, by decide⟩
theorem sw_19 : sBi 19 = wds.getD 22 [] := sB_w ⟨18, by decide⟩
theorem sw_20 : sBi 20 = wds.getD 21 [] := sB_w ⟨19, by decide⟩
theorem sw_21 : sBi 21 = wds.getD 17 [] := sB_w ⟨20, by decide⟩
theorem sw_22 : sBi 22 = wds.getD 18 [] := sB_w ⟨21, by decide⟩
theorem sw_23 : sBi 23 = wds.getD 19 [] := sB_w ⟨22, by decide⟩
theorem sw_24 : sBi 24 = wds.getD 20 [] := sB_w ⟨23, by decide⟩
/-- is the word there? then behind it -/
def PsM (M : Nat) (h : Hc) (b : Nat → Int) (L k : Nat) (x v : Int) : Prop := h M 12 = ((stT b L k : Nat) : Int) ∧ ((thT b L k = x ∧ v = 1 ∧ StM M h b L (k + 1)) ∨ (¬ thT b L k = x ∧ v = 0 ∧ StM M h b L k))
set_option maxHeartbeats 400000 in
theorem C_X12_passes {d : Nat} {g : Gs} {h : Hc} {P : Po} {M : Nat} (hG : MdG g M) {b : Nat → Int} {L : Nat} {k : Nat} (hT : StM M h b L k) (i j : Nat) (hi : i < 25) (hj : j < 30) (hw : sBi i = wds.getD j []) (K : ∀ h' (v : Int), MvM M h h' → PsM M h' b L k (1000 + (j : Int)) v → P (.inl (some (vI v))) g h') : Call (d + 5) 0 0 mX12_passes [vR M, vX (i + 1)] g h P := by
  refine Call_of rfl ⟨by decide +kernel, rfl⟩ (Nat.le_of_ble_eq_true rfl) rfl ?_
  refine aL0 dX12_passes_0 ?_
  refine invV0 rfl dX12_passes_1 kX12_134 hG.o (Nat.le_of_ble_eq_true rfl) (Nat.zero_le _) (Nat.zero_le _) (C_letters hG hT (fun h1 m1 hL1 => konV ?_))
  refine aL0 dX12_passes_4 ?_
  refine xL1 dX12_passes_5 ?_
  refine invV1 rfl dX12_passes_6 kX12_137 hG.o (Nat.le_of_ble_eq_true rfl) (Nat.zero_le _) (Nat.zero_le _) (C_isWord hG hL1 i j hi hj hw (konI ?_))
  refine R_ifB_eq dX12_passes_9 (fun hb9 => ?_) (fun hb9 => ?_)
  · refine aL0 dX12_passes_14 ?_
    refine aL0 dX12_passes_15 ?_
    refine R_getI dX12_passes_16 fX12_119.r hG.o ?_
    refine topV (v := ((stT b L k : Nat) : Int)) (hL1.2.1) ?_
    refine R_putI dX12_passes_19 fX12_109 hG.o ?_
    refine R_iconst_0 dX12_passes_22 ?_
    exact R_zret dX12_passes_23 rfl (by decide) (K _ _ (m1.up (Or.inl rfl)) ⟨hL1.bk.2.1, Or.inr ⟨of_decide_eq_false hb9, rfl, hL1.bk.st⟩⟩)
  · refine R_iconst_1 dX12_passes_12 ?_
    exact R_zret dX12_passes_13 rfl (by decide) (K _ _ m1 ⟨hL1.2.1, Or.inl ⟨of_decide_eq_true hb9, rfl, hL1.st (by have := of_decide_eq_true hb9; omega) (by have := of_decide_eq_true hb9; omega)⟩⟩)
set_option maxHeartbeats 400000 in
theorem C_X12_sign {d : Nat} {g : Gs} {h : Hc} {P : Po} {M : Nat} (hG : MdG g M) {b : Nat → Int} {L : Nat} {k : Nat} (hT : StM M h b L k) {c : Int} (hc : (33 ≤ c ∧ c ≤ 127) ∧ isLB c = false ∧ isDB c = false) (K : ∀ h' (v : Int), MvM M h h' → PsM M h' b L k (2000 + c) v → P (.inl (some (vI v))) g h') : Call (d + 2) 0 0 mX12_sign [vR M, vI c] g h P := by
  have hkn := hT.kn
  have hstl := stT_le (b := b) (L := L) k
  have hl4 : L ≤ 400 := by obtain ⟨p, h1, _, _⟩ := hT; exact h1.2.2.2.1
  refine Call_of rfl ⟨by decide +kernel, rfl⟩ (Nat.le_of_ble_eq_true rfl) rfl ?_
  refine aL0 dX12_sign_0 ?_
  refine invV0 rfl dX12_sign_1 kX12_122 hG.o (Nat.le_of_ble_eq_true rfl) (Nat.zero_le _) (Nat.zero_le _) (C_blanks hG hT (fun h1 m1 hB1 => konV ?_))
  refine aL0 dX12_sign_4 ?_
  refine iL1 dX12_sign_5 ?_
  refine iL1 dX12_sign_6 ?_
  refine invV2 rfl dX12_sign_7 kX12_115 hG.o (Nat.le_of_ble_eq_true rfl) (Nat.zero_le _) (Nat.zero_le _) (C_X12_isAt hG hB1.1 (by omega) (by omega) (konI ?_))
  refine R_ifB_ne dX12_sign_10 (fun hb10 => ?_) (fun hb10 => ?_)
  · have hat := atB_iff.mp hb10
    refine aL0 dX12_sign_15 ?_
    refine dupR dX12_sign_16 ?_
    refine R_getI dX12_sign_17 fX12_109.r hG.o ?_
    refine topV (v := (((stT b L k) : Nat) : Int)) (hB1.1.1) ?_
    refine R_iconst_1 dX12_sign_20 ?_
    refine addV dX12_sign_21 (v := ((((stT b L k) + 1) : Nat) : Int)) (by rw [wid (by omega) (by omega)]; omega) ?_
    refine R_putI dX12_sign_22 fX12_109 hG.o ?_
    refine R_iconst_1 dX12_sign_25 ?_
    exact R_zret dX12_sign_26 rfl (by decide) (K _ _ (m1.up (Or.inl rfl)) ⟨by rw [updH_i (by decide)]; exact hB1.2.1, Or.inl ⟨(th_s hB1.1.b0 hc).mpr hb10, rfl, _, hB1.1.pt (by omega), en_s hc hb10, hB1.2.2.s hat.1⟩⟩)
  · refine R_iconst_0 dX12_sign_13 ?_
    exact R_zret dX12_sign_14 rfl (by decide) (K _ _ m1 ⟨hB1.2.1, Or.inr ⟨fun q => by rw [(th_s hB1.1.b0 hc).mp q] at hb10; exact absurd hb10 (by decide), rfl, hB1.st⟩⟩)
/-- a number from lo to hi, or none -/
def NuM (M : Nat) (h : Hc) (b : Nat → Int) (L k : Nat) (lo hi v : Int) : Prop := h M 12 = ((stT b L k : Nat) : Int) ∧ (((lo ≤ thT b L k ∧ thT b L k ≤ hi) ∧ v = thT b L k ∧ StM M h b L (k + 1)) ∨ (¬ (lo ≤ thT b L k ∧ thT b L k ≤ hi) ∧ v = -1))
def nu3 (b : Nat → Int) (s q : Nat) : Int := nuB b s (if q < 3 then q else 3)
theorem nu3_s {b : Nat → Int} {s q : Nat} (h : q < 3) : nu3 b s (q + 1) = 10 * nu3 b s q + b (s + q) - 48 := by
  unfold nu3
  rw [if_pos h]
  have : (if q + 1 < 3 then q + 1 else 3) = q + 1 := by
    by_cases h2 : q + 1 < 3
    · rw [if_pos h2]
    · rw [if_neg h2]; omega
  rw [this]
  show nuB b s q * 10 + b (s + q) - 48 = _
  omega
theorem nu3_e {b : Nat → Int} {s q : Nat} (h : ¬ q < 3) : nu3 b s (q + 1) = nu3 b s q := by
  unfold nu3
  rw [if_neg h, if_neg (by omega)]
theorem nu3_q {b : Nat → Int} {s q : Nat} (h : q ≤ 3) : nu3 b s q = nuB b s q := by
  unfold nu3
  by_cases h2 : q < 3
  · rw [if_pos h2]
  · rw [if_neg h2, show q = 3 by omega]
theorem nu3_rng {b : Nat → Int} {s q : Nat} (h : ∀ i, i < q → 48 ≤ b (s + i) ∧ b (s + i) ≤ 57) : 0 ≤ nu3 b s q ∧ nu3 b s q ≤ 999 := by
  unfold nu3
  by_cases h2 : q < 3
  · rw [if_pos h2]; exact nuB_rng h (by omega)
  · rw [if_neg h2]; exact nuB_rng (fun i hi => h i (by omega)) (Nat.le_refl _)
theorem num_n {b : Nat → Int} {L k q : Nat} {lo hi : Int} (h0 : ∀ i, i < L → 0 ≤ b i ∧ b i ≤ 255) (hd : dsT b L (stT b L k) = stT b L k + q) (hlo : 0 ≤ lo) (hhi : hi ≤ 999) (h : q = 0 ∨ 3 < q ∨ ¬ (lo ≤ nu3 b (stT b L k) q ∧ nu3 b (stT b L k) q ≤ hi)) : ¬ (lo ≤ thT b L k ∧ thT b L k ≤ hi) := by
  by_cases hq : q = 0
  · subst hq
    have := th_d0 h0 hd
    omega
  · obtain ⟨-, -, e⟩ := th_d hd (by omega)
    by_cases h3 : 3 < q
    · rw [if_pos h3] at e
      omega
    · rw [if_neg h3, ← nu3_q (by omega)] at e
      rw [e]
      omega
theorem num_y {b : Nat → Int} {L k q : Nat} (hd : dsT b L (stT b L k) = stT b L k + q) (h1 : ¬ q = 0) (h2 : ¬ 3 < q) : thT b L k = nu3 b (stT b L k) q ∧ stT b L k < L ∧ nxT b L (stT b L k + q) = stT b L (k + 1) := by
  obtain ⟨a1, a2, e⟩ := th_d hd (by omega)
  rw [if_neg h2, ← nu3_q (by omega)] at e
  refine ⟨e, a1, ?_⟩
  rw [← a2]
  rfl
set_option maxHeartbeats 400000 in
theorem C_X12_number {d : Nat} {g : Gs} {h : Hc} {P : Po} {M : Nat} (hG : MdG g M) {b : Nat → Int} {L : Nat} {k : Nat} (hT : StM M h b L k) {lo hi : Int} (hlo : 0 ≤ lo) (hhi : hi ≤ 999) (K : ∀ h' (v : Int), MvM M h h' → NuM M h' b L k lo hi v → P (.inl (some (vI v))) g h') : Call (d + 2) 0 0 mX12_number [vR M, vI lo, vI hi] g h P := by
  have hkn := hT.kn
  have hstl := stT_le (b := b) (L := L) k
  have hl4 : L ≤ 400 := by obtain ⟨p, h1, _, _⟩ := hT; exact h1.2.2.2.1
  refine Call_of rfl ⟨by decide +kernel, rfl⟩ (Nat.le_of_ble_eq_true rfl) rfl ?_
  refine aL0 dX12_number_0 ?_
  refine invV0 rfl dX12_number_1 kX12_122 hG.o (Nat.le_of_ble_eq_true rfl) (Nat.zero_le _) (Nat.zero_le _) (C_blanks hG hT (fun h1 m1 hB1 => konV ?_))
  obtain ⟨s, hs⟩ : ∃ s, stT b L k = s := ⟨_, rfl⟩
  obtain ⟨hT1, hS1, hK1⟩ := hB1
  rw [hs] at hT1 hS1 hstl
  refine R_iconst_0 dX12_number_4 ?_
  refine iS3 dX12_number_5 ?_
  refine eqI3 (v := nu3 b s 0) rfl ?_
  refine loopN (L - s) (fun q => ∀ hh : Hc, MvM M h hh → TpM M hh b L (s + q) → hh M 12 = ((s : Nat) : Int) → dsT b L (s + q) = dsT b L s → (∀ i, i < q → 48 ≤ b (s + i) ∧ b (s + i) ≤ 57) → Run (d + 2) 0 0 mX12_number 6 [vR M, vI lo, vI hi, vI (nu3 b s q)] [] g hh P) (fun q hcq ihq hh hm hT2 hB2 hn hdg => ?_) 0 (Nat.zero_le _) h1 m1 hT1 hS1 rfl (fun _ h9 => absurd h9 (Nat.not_lt_zero _))
  have hnr := nu3_rng hdg
  refine aL0 dX12_number_6 ?_
  refine R_bipush dX12_number_7 (by decide) ?_
  refine R_bipush dX12_number_9 (by decide) ?_
  refine invV2 rfl dX12_number_11 kX12_115 hG.o (Nat.le_of_ble_eq_true rfl) (Nat.zero_le _) (Nat.zero_le _) (C_X12_isAt hG hT2 (by decide) (by decide) (konI ?_))
  refine R_ifB_eq dX12_number_14 (fun hb14 => ?_) (fun hb14 => ?_)
  · have e9 : dsT b L s = s + q := hn.symm.trans (ds_no hb14)
    rw [← hs] at e9
    refine aL0 dX12_number_65 ?_
    refine R_getI dX12_number_66 fX12_109.r hG.o ?_
    refine topV (v := (((s + q) : Nat) : Int)) (hT2.1) ?_
    refine aL0 dX12_number_69 ?_
    refine R_getI dX12_number_70 fX12_119.r hG.o ?_
    refine topV (v := ((s : Nat) : Int)) (hB2) ?_
    refine R_icmp_eq dX12_number_73 (fun hb73 => ?_) (fun hb73 => ?_)
    · refine R_iconst_m1 dX12_number_99 ?_
      refine R_goto dX12_number_100 ?_
      exact R_iret dX12_number_104 rfl (K _ _ hm ⟨by rw [hs]; exact hB2, Or.inr ⟨num_n hT1.b0 e9 hlo hhi (by rw [hs]; omega), rfl⟩⟩)
    · refine aL0 dX12_number_76 ?_
      refine R_getI dX12_number_77 fX12_109.r hG.o ?_
      refine topV (v := (((s + q) : Nat) : Int)) (hT2.1) ?_
      refine aL0 dX12_number_80 ?_
      refine R_getI dX12_number_81 fX12_119.r hG.o ?_
      refine topV (v := ((s : Nat) : Int)) (hB2) ?_
      refine subV dX12_number_84 (wid (by omega) (by omega)) ?_
      refine R_iconst_3 dX12_number_85 ?_
      refine R_icmp_gt dX12_number_86 (fun hb86 => ?_) (fun hb86 => ?_)
      · refine R_iconst_m1 dX12_number_99 ?_
        refine R_goto dX12_number_100 ?_
        exact R_iret dX12_number_104 rfl (K _ _ hm ⟨by rw [hs]; exact hB2, Or.inr ⟨num_n hT1.b0 e9 hlo hhi (by rw [hs]; omega), rfl⟩⟩)
      · refine iL3 dX12_number_89 ?_
        refine iL1 dX12_number_90 ?_
        refine R_icmp_lt dX12_number_91 (fun hb91 => ?_) (fun hb91 => ?_)
        · refine R_iconst_m1 dX12_number_99 ?_
          refine R_goto dX12_number_100 ?_
          exact R_iret dX12_number_104 rfl (K _ _ hm ⟨by rw [hs]; exact hB2, Or.inr ⟨num_n hT1.b0 e9 hlo hhi (by rw [hs]; omega), rfl⟩⟩)
        · refine iL3 dX12_number_94 ?_
          refine iL2 dX12_number_95 ?_
          refine R_icmp_le dX12_number_96 (fun hb96 => ?_) (fun hb96 => ?_)
          · refine iL3 dX12_number_103 ?_
            exact R_iret dX12_number_104 rfl (PeqI (K _ _ hm ⟨by rw [hs]; exact hB2, Or.inl ⟨by rw [(num_y e9 (by omega) (by omega)).1, hs]; omega, rfl, _, hT2, by rw [← hs]; exact (num_y e9 (by omega) (by omega)).2.2, hK1.s (num_y e9 (by omega) (by omega)).2.1⟩⟩) (by rw [(num_y e9 (by omega) (by omega)).1, hs]))
          · refine R_iconst_m1 dX12_number_99 ?_
            refine R_goto dX12_number_100 ?_
            exact R_iret dX12_number_104 rfl (K _ _ hm ⟨by rw [hs]; exact hB2, Or.inr ⟨num_n hT1.b0 e9 hlo hhi (by rw [hs]; omega), rfl⟩⟩)
  · have hat := atB_iff.mp hb14
    refine aL0 dX12_number_17 ?_
    refine R_getI dX12_number_18 fX12_109.r hG.o ?_
    refine topV (v := (((s + q) : Nat) : Int)) (hT2.1) ?_
    refine aL0 dX12_number_21 ?_
    refine R_getI dX12_number_22 fX12_119.r hG.o ?_
    refine topV (v := ((s : Nat) : Int)) (hB2) ?_
    refine subV dX12_number_25 (wid (by omega) (by omega)) ?_
    refine R_iconst_3 dX12_number_26 ?_
    refine R_icmp_ge dX12_number_27 (fun hb27 => ?_) (fun hb27 => ?_)
    · refine iL3 dX12_number_50 ?_
      refine iS3 dX12_number_51 ?_
      refine aL0 dX12_number_52 ?_
      refine dupR dX12_number_53 ?_
      refine R_getI dX12_number_54 fX12_109.r hG.o ?_
      refine topV (v := (((s + q) : Nat) : Int)) (hT2.1) ?_
      refine R_iconst_1 dX12_number_57 ?_
      refine addV dX12_number_58 (v := ((((s + q) + 1) : Nat) : Int)) (by rw [wid (by omega) (by omega)]; omega) ?_
      refine R_putI dX12_number_59 fX12_109 hG.o ?_
      refine R_goto dX12_number_62 ?_
      exact eqI3 (v := nu3 b s (q + 1)) ((nu3_e (by omega)).symm) (ihq (by omega) _ (hm.up (Or.inl rfl)) (hT2.pt (by omega)) (by rw [updH_i (by decide)]; exact hB2) ((ds_go hb14).symm.trans hn) (fun i hi => by
          by_cases e8 : i = q
          · rw [e8]; omega
          · exact hdg i (by omega)))
    · refine R_bipush dX12_number_30 (by decide) ?_
      refine iL3 dX12_number_32 ?_
      refine mulV dX12_number_33 (wid (by omega) (by omega)) ?_
      refine aL0 dX12_number_34 ?_
      refine R_getR dX12_number_35 fX12_29.r hG.o rfl ?_
      refine aL0 dX12_number_38 ?_
      refine R_getI dX12_number_39 fX12_109.r hG.o ?_
      refine topV (v := (((s + q) : Nat) : Int)) (hT2.1) ?_
      refine baldN dX12_number_42 hG.a6 rfl (by omega) ?_
      refine topV (v := wrapB (b (s + q))) ((hT2.2.2.2.2 (s + q) (by omega)).1) ?_
      have hq1 := wrapB_r (hT2.2.2.2.2 (s + q) (by omega)).2
      refine addV dX12_number_43 (wid (by omega) (by omega)) ?_
      refine R_bipush dX12_number_44 (by decide) ?_
      refine subV dX12_number_46 (wid (by omega) (by omega)) ?_
      refine R_goto dX12_number_47 ?_
      refine iS3 dX12_number_51 ?_
      refine aL0 dX12_number_52 ?_
      refine dupR dX12_number_53 ?_
      refine R_getI dX12_number_54 fX12_109.r hG.o ?_
      refine topV (v := (((s + q) : Nat) : Int)) (hT2.1) ?_
      refine R_iconst_1 dX12_number_57 ?_
      refine addV dX12_number_58 (v := ((((s + q) + 1) : Nat) : Int)) (by rw [wid (by omega) (by omega)]; omega) ?_
      refine R_putI dX12_number_59 fX12_109 hG.o ?_
      refine R_goto dX12_number_62 ?_
      exact eqI3 (v := nu3 b s (q + 1)) (by rw [nu3_s (by omega)]; omega) (ihq (by omega) _ (hm.up (Or.inl rfl)) (hT2.pt (by omega)) (by rw [updH_i (by decide)]; exact hB2) ((ds_go hb14).symm.trans hn) (fun i hi => by
          by_cases e8 : i = q
          · rw [e8]; omega
          · exact hdg i (by omega)))
/-- what a reading has come to, by the model; w: what stands for a failure -/
def OkM (M : Nat) (h : Hc) (b : Nat → Int) (L : Nat) (w l m v : Int) (F : RdF) : Prop := ((l ≤ v ∧ v ≤ m) ∧ v ≠ w ∧ ∃ k, StM M h b L k ∧ ∀ (α : Type) (K : Int → Nat → Nat ⊕ α), F α K = K v k) ∨ (v = w ∧ ∃ f, WrM M h b L f ∧ ∀ (α : Type) (K : Int → Nat → Nat ⊕ α), F α K = .inl f)
theorem OkM.yes {M : Nat} {h : Hc} {b : Nat → Int} {L : Nat} {w l m v : Int} {F : RdF} (q : OkM M h b L w l m v F) (hv : v ≠ w) : (l ≤ v ∧ v ≤ m) ∧ ∃ k, StM M h b L k ∧ ∀ (α : Type) (K : Int → Nat → Nat ⊕ α), F α K = K v k := by
  rcases q with ⟨q0, _, q⟩ | ⟨q, _⟩
  · exact ⟨q0, q⟩
  · exact absurd q hv
theorem OkM.no {M : Nat} {h : Hc} {b : Nat → Int} {L : Nat} {w l m v : Int} {F : RdF} (q : OkM M h b L w l m v F) (hv : v < l ∨ v = w) : ∃ f, WrM M h b L f ∧ ∀ (α : Type) (K : Int → Nat → Nat ⊕ α), F α K = .inl f := by
  rcases q with ⟨q0, q, _⟩ | ⟨_, q⟩
  · rcases hv with hv | hv
    · omega
    · exact absurd hv q
  · exact q
theorem NuM.ok {M : Nat} {h : Hc} {b : Nat → Int} {L k : Nat} {hi v : Int} (q : NuM M h b L k 0 hi v) : OkM M h b L (-1) 0 hi v (fun _ K => rdN (thT b L) k 0 hi K) := by
  obtain ⟨q0, ⟨q1, q2, q3⟩ | ⟨q1, q2⟩⟩ := q
  · exact Or.inl ⟨⟨by omega, by omega⟩, by omega, k + 1, q3, fun α K => (rdN_y q1.1 q1.2).trans (by rw [q2, Int.sub_zero])⟩
  · exact Or.inr ⟨q2, k, q0, fun α K => rdN_n q1⟩
theorem OkM.of {M : Nat} {h : Hc} {b : Nat → Int} {L : Nat} {w l m v : Int} {F G : RdF} (q : OkM M h b L w l m v F) (e : ∀ (α : Type) (K : Int → Nat → Nat ⊕ α), G α K = F α K) : OkM M h b L w l m v G := by
  rcases q with ⟨q1, q2, k, q3, q4⟩ | ⟨q1, f, q2, q3⟩
  · exact Or.inl ⟨q1, q2, k, q3, fun α K => (e α K).trans (q4 α K)⟩
  · exact Or.inr ⟨q1, f, q2, fun α K => (e α K).trans (q3 α K)⟩
theorem NuM.ty {M : Nat} {h : Hc} {b : Nat → Int} {L k : Nat} {z v l m : Int} (q : NuM M h b L k 0 z v) (hv : 0 ≤ v) (hy : l ≤ 0 ∧ z ≤ m ∧ m ≤ 999) : OkM M h b L 1000000 l m v (fun _ K => rdN (thT b L) k 0 z K) := by
  obtain ⟨q0, ⟨q1, q2, q3⟩ | ⟨q1, q2⟩⟩ := q
  · exact Or.inl ⟨⟨by omega, by omega⟩, by omega, k + 1, q3, fun α K => (rdN_y q1.1 q1.2).trans (by rw [q2, Int.sub_zero])⟩
  · omega
theorem NuM.tn {M : Nat} {h : Hc} {b : Nat → Int} {L k : Nat} {z v l m : Int} (q : NuM M h b L k 0 z v) (hv : v < 0) : OkM M h b L 1000000 l m 1000000 (fun _ K => rdN (thT b L) k 0 z K) := by
  obtain ⟨q0, ⟨q1, q2, q3⟩ | ⟨q1, q2⟩⟩ := q
  · omega
  · exact Or.inr ⟨rfl, k, q0, fun α K => rdN_n q1⟩
set_option maxHeartbeats 400000 in
theorem C_X12_behind {d : Nat} {g : Gs} {h : Hc} {P : Po} {M : Nat} (hG : MdG g M) {b : Nat → Int} {L : Nat} {k : Nat} (hT : StM M h b L k) (i j : Nat) (hi : i < 25) (hj : j < 30) (hw : sBi i = wds.getD j []) {z : Int} (h9 : z ≤ 999) (K : ∀ h' (v : Int), MvM M h h' → OkM M h' b L (-1) 0 z v (fun _ K => rdW (thT b L) k (1000 + (j : Int)) fun k => rdN (thT b L) k 0 z K) → P (.inl (some (vI v))) g h') : Call (d + 5) 0 0 mX12_behind [vR M, vX (i + 1), vI 0, vI z] g h P := by
  refine Call_of rfl ⟨by decide +kernel, rfl⟩ (Nat.le_of_ble_eq_true rfl) rfl ?_
  refine aL0 dX12_behind_0 ?_
  refine invV0 rfl dX12_behind_1 kX12_134 hG.o (Nat.le_of_ble_eq_true rfl) (Nat.zero_le _) (Nat.zero_le _) (C_letters hG hT (fun h1 m1 hL1 => konV ?_))
  refine aL0 dX12_behind_4 ?_
  refine xL1 dX12_behind_5 ?_
  refine invV1 rfl dX12_behind_6 kX12_137 hG.o (Nat.le_of_ble_eq_true rfl) (Nat.zero_le _) (Nat.zero_le _) (C_isWord hG hL1 i j hi hj hw (konI ?_))
  refine R_ifB_eq dX12_behind_9 (fun hb9 => ?_) (fun hb9 => ?_)
  · have a1 := of_decide_eq_false hb9
    refine R_iconst_m1 dX12_behind_21 ?_
    exact R_iret dX12_behind_22 rfl (K _ _ m1 (Or.inr ⟨rfl, k, hL1.2.1, fun α K => rdW_n a1⟩))
  · have a1 := of_decide_eq_true hb9
    refine aL0 dX12_behind_12 ?_
    refine iL2 dX12_behind_13 ?_
    refine iL3 dX12_behind_14 ?_
    refine invV2 rfl dX12_behind_15 kX12_141 hG.o (Nat.le_of_ble_eq_true rfl) (Nat.zero_le _) (Nat.zero_le _) (C_X12_number hG (hL1.st (by omega) (by omega)) (by decide) h9 (fun h2 v2 m2 q2 => konI ?_))
    refine R_goto dX12_behind_18 ?_
    exact R_iret dX12_behind_22 rfl (K _ _ (m1.tr m2) (q2.ok.of (fun α K => rdW_y a1)))
set_option maxHeartbeats 400000 in
theorem C_X12_told {d : Nat} {g : Gs} {h : Hc} {P : Po} {M : Nat} (hG : MdG g M) {b : Nat → Int} {L : Nat} {k : Nat} (hT : StM M h b L k) (i j : Nat) (hi : i < 25) (hj : j < 30) (hw : sBi i = wds.getD j []) {z y l m : Int} (h9 : z ≤ 999) (hy : l ≤ 0 ∧ l ≤ y ∧ z ≤ m ∧ y ≤ m ∧ m ≤ 999) (K : ∀ h' (v : Int), MvM M h h' → OkM M h' b L 1000000 l m v (fun _ K => rdM (thT b L) k (1000 + (j : Int)) z y K) → P (.inl (some (vI v))) g h') : Call (d + 6) 0 0 mX12_told [vR M, vX (i + 1), vI z, vI y] g h P := by
  refine Call_of rfl ⟨by decide +kernel, rfl⟩ (Nat.le_of_ble_eq_true rfl) rfl ?_
  refine aL0 dX12_told_0 ?_
  refine xL1 dX12_told_1 ?_
  refine invV1 rfl dX12_told_2 kX12_144 hG.o (Nat.le_of_ble_eq_true rfl) (Nat.zero_le _) (Nat.zero_le _) (C_X12_passes hG hT i j hi hj hw (fun h1 v1 m1 q1 => konI ?_))
  refine R_if_ne dX12_told_5 (fun hb5 => ?_) (fun hb5 => ?_)
  · rcases q1 with ⟨z1, ⟨a1, b1, T1⟩ | ⟨a1, b1, T1⟩⟩
    rotate_left
    · exfalso; omega
    refine aL0 dX12_told_10 ?_
    refine R_iconst_0 dX12_told_11 ?_
    refine iL2 dX12_told_12 ?_
    refine invV2 rfl dX12_told_13 kX12_141 hG.o (Nat.le_of_ble_eq_true rfl) (Nat.zero_le _) (Nat.zero_le _) (C_X12_number hG T1 (by decide) h9 (fun h2 v2 m2 q2 => konI ?_))
    refine iS4 dX12_told_16 ?_
    refine iL4 dX12_told_18 ?_
    refine R_if_ge dX12_told_20 (fun hb20 => ?_) (fun hb20 => ?_)
    · refine iL4 dX12_told_28 ?_
      exact R_iret dX12_told_30 rfl (K _ _ (m1.tr m2) ((q2.ty (by omega) (by omega)).of (fun α K => rdM_y a1)))
    · refine R_ldcI dX12_told_23 qX12_147 (by decide) ?_
      refine R_goto dX12_told_25 ?_
      exact R_iret dX12_told_30 rfl (K _ _ (m1.tr m2) ((q2.tn (by omega)).of (fun α K => rdM_y a1)))
  · rcases q1 with ⟨z1, ⟨a1, b1, T1⟩ | ⟨a1, b1, T1⟩⟩
    · exfalso; omega
    refine iL3 dX12_told_8 ?_
    exact R_iret dX12_told_9 rfl (K _ _ m1 (Or.inl ⟨⟨by omega, by omega⟩, by omega, k, T1, fun α K => rdM_n a1⟩))
