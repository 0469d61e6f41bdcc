theorem anyB {p : Nat → Bool} {n : Nat} : (decide (0 < cntB p n) || p n) = decide (0 < cntB p (n + 1)) := by
  cases h : p n
  · rw [cntB_f h]; simp
  · rw [cntB_t h]; simp
def wfS (w : Nat → Int) (c : Nat) (a : Int × Int) : Int × Int := (if a.2 < (if (decide (0 < cntB (frN w c) (w 0).toNat) && lostB w c) = true then gainW w c else -1000000) then (c : Int) else a.1, mx2 a.2 (if (decide (0 < cntB (frN w c) (w 0).toNat) && lostB w c) = true then gainW w c else -1000000))
def wfF (w : Nat → Int) : Nat → Int × Int := foldN (wfS w) (-1, -1000000)
theorem wfF_s (w : Nat → Int) (n : Nat) : wfF w (n + 1) = wfS w n (wfF w n) := rfl
theorem gainW_rng {w : Nat → Int} (hf : WF w) {c : Nat} (hc : c < 8) : -9 ≤ gainW w c ∧ gainW w c ≤ 99 := by
  have h1 := hf.wo hc
  have h2 := hf.gr hc
  unfold gainW
  omega
theorem wfF_eq {w : Nat → Int} (hf : WF w) : ∀ n, n ≤ 8 → ((aplF w n).1 < 0 ∧ wfF w n = (-1, -1000000) ∧ (aplF w n).1 = -1) ∨ (0 ≤ (aplF w n).1 ∧ wfF w n = aplF w n ∧ -9 ≤ (aplF w n).2 ∧ (aplF w n).2 ≤ 99)
  | 0, _ => Or.inl ⟨by show (-1 : Int) < 0; omega, rfl, rfl⟩
  | n + 1, hn => by
    have ih := wfF_eq hf n (by omega)
    have hg := gainW_rng hf (c := n) (by omega)
    have ea : aplF w (n + 1) = aplS w n (aplF w n) := rfl
    rw [ea, wfF_s]
    unfold aplS wfS
    by_cases h1 : lostB w n = true
    · by_cases h2 : 0 < cntB (frN w n) (w 0).toNat
      · have e1 : (decide (0 < cntB (frN w n) (w 0).toNat) && lostB w n) = true := by simp [h1, h2]
        rw [if_pos e1]
        rcases ih with ⟨a1, a2, a3⟩ | ⟨a1, a2, a3, a4⟩
        · rw [a2, if_pos ⟨h1, Or.inl a1, h2⟩]
          refine Or.inr ⟨by show (0 : Int) ≤ n; omega, ?_, hg.1, hg.2⟩
          unfold mx2
          rw [if_pos (by omega), if_pos (by omega)]
        · rw [a2]
          by_cases h3 : (aplF w n).2 < gainW w n
          · rw [if_pos ⟨h1, Or.inr h3, h2⟩]
            refine Or.inr ⟨by show (0 : Int) ≤ n; omega, ?_, hg.1, hg.2⟩
            unfold mx2
            rw [if_pos h3, if_pos h3]
          · rw [if_neg (fun h => by omega)]
            refine Or.inr ⟨a1, ?_, a3, a4⟩
            unfold mx2
            rw [if_neg h3, if_neg h3]
      · have e1 : ¬ (decide (0 < cntB (frN w n) (w 0).toNat) && lostB w n) = true := by simp [h2]
        rw [if_neg e1, if_neg (fun h => h2 h.2.2)]
        rcases ih with ⟨a1, a2, a3⟩ | ⟨a1, a2, a3, a4⟩
        · rw [a2]; exact Or.inl ⟨a1, rfl, a3⟩
        · rw [a2]
          refine Or.inr ⟨a1, ?_, a3, a4⟩
          unfold mx2
          rw [if_neg (by omega), if_neg (by omega)]
    · have e1 : ¬ (decide (0 < cntB (frN w n) (w 0).toNat) && lostB w n) = true := by simp [h1]
      rw [if_neg e1, if_neg (fun h => h1 h.1)]
      rcases ih with ⟨a1, a2, a3⟩ | ⟨a1, a2, a3, a4⟩
      · rw [a2]; exact Or.inl ⟨a1, rfl, a3⟩
      · rw [a2]
        refine Or.inr ⟨a1, ?_, a3, a4⟩
        unfold mx2
        rw [if_neg (by omega), if_neg (by omega)]
theorem wfF_1 {w : Nat → Int} (hf : WF w) : (wfF w (w 1).toNat).1 = (aplF w (w 1).toNat).1 := by
  have hc := hf.cas
  rcases wfF_eq hf (w 1).toNat (by omega) with ⟨_, h, h2⟩ | ⟨_, h, _⟩
  · rw [h, h2]
  · rw [h]
theorem wfF_rng {w : Nat → Int} (hf : WF w) {n : Nat} (hn : n ≤ 8) : -1000000 ≤ (wfF w n).2 ∧ (wfF w n).2 ≤ 99 := by
  rcases wfF_eq hf n hn with ⟨_, h, _⟩ | ⟨_, h, h3, h4⟩
  · rw [h]; decide
  · rw [h]; omega
/-- agree, by the model -/
def agQ (w : Nat → Int) (c q k : Nat) : Bool := inStP w 0 k && (if k < c then decide (cntB (frN w k) (w 0).toNat = (w 0).toNat) else if k = c then decide (cntB (frN w k) q = q) else true)
theorem tb_m1 : ∀ k, k < 32 → tb (-1) k = true := by decide +kernel
theorem bset_rem {p : Nat → Bool} {n c : Nat} (hn : n ≤ 32) (hc : c < 32) : andI (bset p n) (xorI (shlI 1 (c : Int)) (-1)) = bset (fun k => p k && !decide (k = c)) n := by
  refine tb_ext (in32_andI _ _) (in32_bset _ _) fun k hk => ?_
  rw [tb_and, tb_xor, tb_bset hk hn, tb_bset hk hn, tb_shl1 hc hk, tb_m1 k hk, Bool.xor_true, Bool.and_assoc]
theorem cntB_all {p : Nat → Bool} {n : Nat} (h : cntB p n < n) : cntB p (n + 1) < n + 1 := by
  cases e : p n
  · rw [cntB_f e]; omega
  · rw [cntB_t e]; omega
theorem agQ_f {w : Nat → Int} {c q : Nat} (h : frN w c q = false) : (fun k => agQ w c q k && !decide (k = c)) = agQ w c (q + 1) := by
  funext k
  unfold agQ
  have h1 := cntB_le (frN w c) q
  by_cases e : k = c
  · subst e
    rw [cntB_f h]
    simp
    intro _
    omega
  · simp [e]
theorem agQ_t {w : Nat → Int} {c q : Nat} (h : frN w c q = true) : agQ w c q = agQ w c (q + 1) := by
  funext k
  unfold agQ
  by_cases e : k = c
  · subst e
    rw [cntB_t h]
    simp
  · simp [e]
theorem agQ_n {w : Nat → Int} {c : Nat} : agQ w c (w 0).toNat = agQ w (c + 1) 0 := by
  funext k
  unfold agQ
  by_cases e : k = c
  · subst e
    rw [if_neg (Nat.lt_irrefl _), if_pos rfl, if_pos (Nat.lt_succ_self _)]
  · by_cases e2 : k < c
    · rw [if_pos e2, if_pos (by omega)]
    · rw [if_neg e2, if_neg e, if_neg (by omega)]
      by_cases e3 : k = c + 1
      · rw [if_pos e3]; simp [cntB_0]
      · rw [if_neg e3]
theorem agQ_0 {w : Nat → Int} : agQ w 0 0 = inStP w 0 := by
  funext k
  unfold agQ
  rw [if_neg (Nat.not_lt_zero _)]
  split <;> simp [cntB_0]
theorem agQ_all {w : Nat → Int} (hf : WF w) {n : Nat} (hn : n = (w 1).toNat) : bset (agQ w n 0) n = bset (agrP w) n := by
  have hj := hf.jud
  refine bset_cong fun k hk => ?_
  unfold agQ agrP inStP
  rw [if_pos hk]
  congr 1
  rw [decide_eq_decide]
  omega
/-- pairs alike, counted the other way -/
def twM (w : Nat → Int) : Nat → Nat := foldN (fun a x => x + cntB (likB w a) a) 0
theorem twM_s (w : Nat → Int) (n : Nat) : twM w (n + 1) = twM w n + cntB (likB w n) n := rfl
theorem twM_le (w : Nat → Int) : ∀ n, twM w n ≤ n * n
  | 0 => Nat.le_refl _
  | n + 1 => by
    have h1 := twM_le w n
    have h2 := cntB_le (likB w n) n
    rw [twM_s, Nat.mul_succ, Nat.succ_mul]
    omega
theorem likB_sym (w : Nat → Int) (a b : Nat) : likB w a b = likB w b a := by
  unfold likB
  congr 1 <;> rw [decide_eq_decide] <;> constructor <;> intro h <;> omega
theorem twF_n (w : Nat → Int) (n : Nat) : ∀ k, k ≤ n → twF w (n + 1) k = twF w n k + cntB (likB w n) k
  | 0, _ => rfl
  | k + 1, h => by
    rw [twF_s, twF_s, twF_n w n k (by omega)]
    have e : cntB (twP w k) (n + 1) + cntB (likB w n) k = cntB (twP w k) n + cntB (likB w n) (k + 1) := by
      have e1 : twP w k n = likB w n k := by unfold twP; rw [likB_sym]; simp; omega
      cases h9 : likB w n k
      · rw [cntB_f (e1.trans h9), cntB_f h9]
      · rw [cntB_t (e1.trans h9), cntB_t h9]; omega
    omega
theorem twM_eq (w : Nat → Int) : ∀ n, twM w n = twF w n n
  | 0 => rfl
  | n + 1 => by
    rw [twM_s, twM_eq w n, twF_s, twF_n w n n (Nat.le_refl _), cntB_skip (a := n + 1) (Nat.le_refl _) (fun k hk => by unfold twP; simp; omega)]
    rfl
/-- what is listed, by cases -/
def lisP (w : Nat → Int) (c : Nat) : Bool := !decide (placeOf w (c : Int) = -1)
theorem firstB_none {p : Nat → Bool} {n : Nat} (h : firstB p n = -1) {k : Nat} (hk : k < n) : p k = false := by
  cases hp : p k
  · rfl
  · exfalso
    have : ∃ m, m ≤ k ∧ p m = true ∧ ∀ j, j < m → p j = false := by
      clear h hk
      induction k using Nat.strongRecOn with
      | ind k ih =>
        by_cases q : ∃ j, j < k ∧ p j = true
        · obtain ⟨j, hj, hpj⟩ := q
          obtain ⟨m, h1, h2⟩ := ih j hj hpj
          exact ⟨m, by omega, h2⟩
        · refine ⟨k, Nat.le_refl _, hp, fun j hj => ?_⟩
          cases hpj : p j
          · rfl
          · exact absurd ⟨j, hj, hpj⟩ q
    obtain ⟨m, hm, hpm, hno⟩ := this
    rw [firstB_at hpm hno (by omega)] at h
    omega
theorem in32_listF (w : Nat → Int) : ∀ n, in32 (listF w n)
  | 0 => by show in32 0; unfold in32; omega
  | n + 1 => by
    by_cases h : 0 ≤ w (20 + n)
    · rw [listF_t h]; exact in32_orI _ _
    · rw [listF_f h]; exact in32_listF w n
theorem tb_listF {w : Nat → Int} (hf : WF w) {k : Nat} (hk : k < 32) : ∀ n, n ≤ 60 → (tb (listF w n) k = true ↔ ∃ p, p < n ∧ w (20 + p) = (k : Int))
  | 0, _ => by
    show tb 0 k = true ↔ _
    rw [tb_0]
    simp
  | n + 1, hn => by
    have hp := hf.pla n (by omega)
    have hc := hf.cas
    have ih := tb_listF hf hk n (by omega)
    by_cases h : 0 ≤ w (20 + n)
    · obtain ⟨x, hx⟩ : ∃ x : Nat, w (20 + n) = (x : Int) := ⟨(w (20 + n)).toNat, by omega⟩
      rw [listF_t h, tb_or, hx, tb_shl1 (by omega) hk, Bool.or_eq_true, ih]
      constructor
      · rintro (⟨p, h1, h2⟩ | h1)
        · exact ⟨p, by omega, h2⟩
        · exact ⟨n, Nat.lt_succ_self _, by rw [hx, of_decide_eq_true h1]⟩
      · rintro ⟨p, h1, h2⟩
        by_cases e : p = n
        · subst e; exact Or.inr (decide_eq_true (by omega))
        · exact Or.inl ⟨p, by omega, h2⟩
    · rw [listF_f h, ih]
      constructor
      · rintro ⟨p, h1, h2⟩; exact ⟨p, by omega, h2⟩
      · rintro ⟨p, h1, h2⟩
        by_cases e : p = n
        · subst e; omega
        · exact ⟨p, by omega, h2⟩
theorem lis_eq {w : Nat → Int} (hf : WF w) : bset (lisP w) (w 1).toNat = listF w 60 := by
  have hc := hf.cas
  refine tb_ext (in32_bset _ _) (in32_listF w 60) fun k hk => ?_
  rw [tb_bset hk (by omega)]
  have h1 := tb_listF hf hk 60 (Nat.le_refl _)
  cases h : tb (listF w 60) k
  · have h2 : ¬ ∃ p, p < 60 ∧ w (20 + p) = (k : Int) := fun q => by rw [h1.mpr q] at h; cases h
    have h3 : placeOf w (k : Int) = -1 := by
      rcases firstB_rng (placeP w (k : Int)) 60 with e | ⟨p, hp, e, hpp, _⟩
      · exact e
      · exact absurd ⟨p, hp, of_decide_eq_true hpp⟩ h2
    simp [lisP, h3]
  · obtain ⟨p, hp, hpk⟩ := h1.mp h
    have h2 := hf.pla p hp
    have h3 : placeOf w (k : Int) ≠ -1 := fun e => by
      have := firstB_none e hp
      rw [show placeP w (k : Int) p = true from decide_eq_true hpk] at this
      cases this
    simp [lisP, h3]
    omega
set_option maxHeartbeats 400000 in
theorem C_X12_worth {d : Nat} {g : Gs} {h : Hc} {P : Po} {M : Nat} {w : Nat → Int} (hG : MdG g M) (hW : h (M + 1) = w) (hf : WF w) (hl : LawOK w) (K0 : ∀ h', Mp M h h' 0 → P (.inl (some (vI ((aplF w (w 1).toNat).1)))) g h') : Call (d + 10) 0 0 mX12_worth [vR M] g h P := by
  have hcs := hf.cas
  have hjd := hf.jud
  have hho := hf.hou
  refine Call_of rfl ⟨by decide +kernel, rfl⟩ (Nat.le_of_ble_eq_true rfl) rfl ?_
  refine aL0 dX12_worth_0 ?_
  refine R_iconst_0 dX12_worth_1 ?_
  refine R_putI dX12_worth_2 fX12_3 hG.o ?_
  refine storH (fun h1 e1 => ?_)
  have hP : Mp M h h1 0 := by rw [e1]; exact Mp.i h M
  replace hW : h1 (M + 1) = w := hP.w hW
  have hQ : Mz M h1 h1 := Mz.rf _ _
  refine R_iconst_m1 dX12_worth_5 ?_
  refine iS1 dX12_worth_6 ?_
  refine R_ldcwI dX12_worth_7 qX12_465 (by decide) ?_
  refine iS2 dX12_worth_10 ?_
  refine R_iconst_0 dX12_worth_11 ?_
  refine iS3 dX12_worth_12 ?_
  refine loopN ((w 1).toNat) (fun c => ∀ hK11 : Hc, Mz M h1 hK11 → hK11 (M + 1) = w → ∀ v4 v5 v6 : AV,  Run (d + 10) 0 0 mX12_worth 13 [vR M, vI ((wfF w c).1), vI ((wfF w c).2), vI ((c : Nat) : Int), v4, v5, v6] [] g hK11 P) (fun c hcnc ihc hK11 hQ hW v4 v5 v6 => ?_) (0) (Nat.zero_le _) _ hQ hW _ _ _
  have hwr := wfF_rng hf (n := c) (by omega)
  have hgr := gainW_rng hf (c := c)
  refine iL3 dX12_worth_13 ?_
  refine aL0 dX12_worth_14 ?_
  refine invV0 rfl dX12_worth_15 kX12_90 hG.o (Nat.le_of_ble_eq_true rfl) (Nat.zero_le _) (Nat.zero_le _) (C_X12_cases hG hW hf (konI ?_))
  have hcs := hf.cas
  refine R_icmp_ge dX12_worth_18 (fun hb18 => ?_) (fun hb18 => ?_)
  · have e9 : c = (w 1).toNat := by omega
    subst e9
    refine iL1 dX12_worth_150 ?_
    exact R_iret dX12_worth_151 rfl (by have := K0 _ (hP.q hQ); rw [← wfF_1 hf] at this; exact this)
  · refine R_iconst_0 dX12_worth_21 ?_
    refine iS4 dX12_worth_22 ?_
    refine R_iconst_0 dX12_worth_24 ?_
    refine iS5 dX12_worth_25 ?_
    refine loopN ((w 0).toNat) (fun q => ∀ hK12 : Hc, Mz M h1 hK12 → hK12 (M + 1) = w →  Run (d + 10) 0 0 mX12_worth 27 [vR M, vI ((wfF w c).1), vI ((wfF w c).2), vI ((c : Nat) : Int), vI (bI (decide (0 < cntB (frN w c) q))), vI ((q : Nat) : Int), v6] [] g hK12 P) (fun q hcnq ihq hK12 hQ hW  => ?_) (0) (Nat.zero_le _) _ hQ hW
    refine iL5 dX12_worth_27 ?_
    refine aL0 dX12_worth_29 ?_
    refine invV0 rfl dX12_worth_30 kX12_98 hG.o (Nat.le_of_ble_eq_true rfl) (Nat.zero_le _) (Nat.zero_le _) (C_X12_judges hG hW hf (konI ?_))
    have hjd := hf.jud
    refine R_icmp_ge dX12_worth_33 (fun hb33 => ?_) (fun hb33 => ?_)
    · have e9 : q = (w 0).toNat := by omega
      subst e9
      suffices J13 : Run (d + 10) 0 0 mX12_worth 94 [vR M, vI ((wfF w c).1), vI ((wfF w c).2), vI ((c : Nat) : Int), vI (bI (decide (0 < cntB (frN w c) ((w 0).toNat)))), vI ((((w 0).toNat) : Nat) : Int), v6] [vI (bI (decide (0 < cntB (frN w c) (w 0).toNat) && lostB w c))] g hK12 P by
        refine iL4 dX12_worth_64 ?_
        refine R_ifB_eq dX12_worth_66 (fun hb66 => ?_) (fun hb66 => ?_)
        · refine R_iconst_0 dX12_worth_93 ?_
          exact topV (v := bI (decide (0 < cntB (frN w c) (w 0).toNat) && lostB w c)) (by first | (rw [bI_f (by first | (simp only [hb66, Bool.false_and]; done) | fail)]; done) | (rw [bI_t (by rw [hb66]; simp [lostB]; omega)]; done) | (rw [bI_f (by rw [hb66]; simp [lostB]; omega)]; done)) J13
        · refine aL0 dX12_worth_69 ?_
          refine iL3 dX12_worth_70 ?_
          refine R_iconst_4 dX12_worth_71 ?_
          refine invV2 rfl dX12_worth_72 kX12_87 hG.o (Nat.le_of_ble_eq_true rfl) (Nat.zero_le _) (Nat.zero_le _) (C_X12_of hG hW (b := 4) (i := 104 + 7 * c) (by omega) (by omega) (konI ?_))
          have hq14 := hf.st (c := c) (by omega)
          refine R_iconst_2 dX12_worth_75 ?_
          refine R_icmp_eq dX12_worth_76 (fun hb76 => ?_) (fun hb76 => ?_)
          · refine R_iconst_1 dX12_worth_89 ?_
            refine R_goto dX12_worth_90 ?_
            exact topV (v := bI (decide (0 < cntB (frN w c) (w 0).toNat) && lostB w c)) (by first | (rw [bI_f (by first | (simp only [hb66, Bool.false_and]; done) | fail)]; done) | (rw [bI_t (by rw [hb66]; simp [lostB]; omega)]; done) | (rw [bI_f (by rw [hb66]; simp [lostB]; omega)]; done)) J13
          · refine aL0 dX12_worth_79 ?_
            refine iL3 dX12_worth_80 ?_
            refine R_iconst_4 dX12_worth_81 ?_
            refine invV2 rfl dX12_worth_82 kX12_87 hG.o (Nat.le_of_ble_eq_true rfl) (Nat.zero_le _) (Nat.zero_le _) (C_X12_of hG hW (b := 4) (i := 104 + 7 * c) (by omega) (by omega) (konI ?_))
            have hq15 := hf.st (c := c) (by omega)
            refine R_iconst_3 dX12_worth_85 ?_
            refine R_icmp_ne dX12_worth_86 (fun hb86 => ?_) (fun hb86 => ?_)
            · refine R_iconst_0 dX12_worth_93 ?_
              exact topV (v := bI (decide (0 < cntB (frN w c) (w 0).toNat) && lostB w c)) (by first | (rw [bI_f (by first | (simp only [hb66, Bool.false_and]; done) | fail)]; done) | (rw [bI_t (by rw [hb66]; simp [lostB]; omega)]; done) | (rw [bI_f (by rw [hb66]; simp [lostB]; omega)]; done)) J13
            · refine R_iconst_1 dX12_worth_89 ?_
              refine R_goto dX12_worth_90 ?_
              exact topV (v := bI (decide (0 < cntB (frN w c) (w 0).toNat) && lostB w c)) (by first | (rw [bI_f (by first | (simp only [hb66, Bool.false_and]; done) | fail)]; done) | (rw [bI_t (by rw [hb66]; simp [lostB]; omega)]; done) | (rw [bI_f (by rw [hb66]; simp [lostB]; omega)]; done)) J13
      refine iS5 dX12_worth_94 ?_
      suffices J16 : Run (d + 10) 0 0 mX12_worth 123 [vR M, vI ((wfF w c).1), vI ((wfF w c).2), vI ((c : Nat) : Int), vI (bI (decide (0 < cntB (frN w c) ((w 0).toNat)))), vI (bI (decide (0 < cntB (frN w c) (w 0).toNat) && lostB w c)), v6] [vI ((if (decide (0 < cntB (frN w c) (w 0).toNat) && lostB w c) = true then gainW w c else -1000000))] g hK12 P by
        refine iL5 dX12_worth_96 ?_
        refine R_ifB_eq dX12_worth_98 (fun hb98 => ?_) (fun hb98 => ?_)
        · refine R_ldcwI dX12_worth_120 qX12_465 (by decide) ?_
          exact topV (v := (if (decide (0 < cntB (frN w c) (w 0).toNat) && lostB w c) = true then gainW w c else -1000000)) (by first | (rw [if_pos hb98]; rfl) | (rw [if_neg (by rw [hb98]; decide)]; done)) J16
        · refine aL0 dX12_worth_101 ?_
          refine iL3 dX12_worth_102 ?_
          refine R_iconst_2 dX12_worth_103 ?_
          refine invV2 rfl dX12_worth_104 kX12_87 hG.o (Nat.le_of_ble_eq_true rfl) (Nat.zero_le _) (Nat.zero_le _) (C_X12_of hG hW (b := 2) (i := 102 + 7 * c) (by omega) (by omega) (konI ?_))
          have hq17 := hf.wo (c := c) (by omega)
          refine aL0 dX12_worth_107 ?_
          refine iL3 dX12_worth_108 ?_
          refine R_iconst_1 dX12_worth_109 ?_
          refine invV2 rfl dX12_worth_110 kX12_87 hG.o (Nat.le_of_ble_eq_true rfl) (Nat.zero_le _) (Nat.zero_le _) (C_X12_of hG hW (b := 1) (i := 101 + 7 * c) (by omega) (by omega) (konI ?_))
          have hq18 := hf.gr (c := c) (by omega)
          refine R_bipush dX12_worth_113 (by decide) ?_
          refine divV dX12_worth_115 (by decide) (divI (by omega) (by omega) (by omega)) ?_
          refine subV dX12_worth_116 (wid (by omega) (by omega)) ?_
          refine R_goto dX12_worth_117 ?_
          exact topV (v := (if (decide (0 < cntB (frN w c) (w 0).toNat) && lostB w c) = true then gainW w c else -1000000)) (by first | (rw [if_pos hb98]; rfl) | (rw [if_neg (by rw [hb98]; decide)]; done)) J16
      have hgl : -1000000 ≤ (if (decide (0 < cntB (frN w c) (w 0).toNat) && lostB w c) = true then gainW w c else -1000000) ∧ (if (decide (0 < cntB (frN w c) (w 0).toNat) && lostB w c) = true then gainW w c else -1000000) ≤ 99 := by have := gainW_rng hf (c := c) (by omega); split <;> omega
      refine iS6 dX12_worth_123 ?_
      suffices J19 : Run (d + 10) 0 0 mX12_worth 136 [vR M, vI ((wfF w c).1), vI ((wfF w c).2), vI ((c : Nat) : Int), vI (bI (decide (0 < cntB (frN w c) ((w 0).toNat)))), vI (bI (decide (0 < cntB (frN w c) (w 0).toNat) && lostB w c)), vI ((if (decide (0 < cntB (frN w c) (w 0).toNat) && lostB w c) = true then gainW w c else -1000000))] [vI ((if (wfF w c).2 < (if (decide (0 < cntB (frN w c) (w 0).toNat) && lostB w c) = true then gainW w c else -1000000) then (c : Int) else (wfF w c).1))] g hK12 P by
        refine iL6 dX12_worth_125 ?_
        refine iL2 dX12_worth_127 ?_
        refine R_icmp_le dX12_worth_128 (fun hb128 => ?_) (fun hb128 => ?_)
        · refine iL1 dX12_worth_135 ?_
          exact topV (v := (if (wfF w c).2 < (if (decide (0 < cntB (frN w c) (w 0).toNat) && lostB w c) = true then gainW w c else -1000000) then (c : Int) else (wfF w c).1)) (by first | (rw [if_pos (by omega)]; done) | (rw [if_neg (by omega)]; done)) J19
        · refine iL3 dX12_worth_131 ?_
          refine R_goto dX12_worth_132 ?_
          exact topV (v := (if (wfF w c).2 < (if (decide (0 < cntB (frN w c) (w 0).toNat) && lostB w c) = true then gainW w c else -1000000) then (c : Int) else (wfF w c).1)) (by first | (rw [if_pos (by omega)]; done) | (rw [if_neg (by omega)]; done)) J19
      refine iS1 dX12_worth_136 ?_
      refine iL2 dX12_worth_137 ?_
      refine iL6 dX12_worth_138 ?_
      refine R_mmax dX12_worth_140 kX12_313 lb_max (Nat.le_of_ble_eq_true rfl) ?_
      refine iS2 dX12_worth_143 ?_
      refine iInc3 dX12_worth_144 (winc (by omega)) ?_
      refine R_goto dX12_worth_147 ?_
      exact eqI1 (rfl) (eqI2 (rfl) (ihc (by omega) _ hQ hW _ _ _))
    · suffices J20 : ∀ hJ20 : Hc, Mz M h1 hJ20 → hJ20 (M + 1) = w → Run (d + 10) 0 0 mX12_worth 56 [vR M, vI ((wfF w c).1), vI ((wfF w c).2), vI ((c : Nat) : Int), vI (bI (decide (0 < cntB (frN w c) q))), vI ((q : Nat) : Int), v6] [vI (bI (decide (0 < cntB (frN w c) q) || frN w c q))] g hJ20 P by
        refine iL4 dX12_worth_36 ?_
        refine R_ifB_ne dX12_worth_38 (fun hb38 => ?_) (fun hb38 => ?_)
        · refine R_iconst_1 dX12_worth_51 ?_
          refine R_goto dX12_worth_52 ?_
          exact topV (v := bI (decide (0 < cntB (frN w c) q) || frN w c q)) (by first | (rw [bI_t (by first | (simp only [hb38, Bool.true_or]; done) | fail)]; done) | (rw [bI_t (by first | (simp only [hb48, Bool.or_true]; done) | fail)]; done) | (rw [bI_f (by first | (simp only [hb38, hb48, Bool.or_self]; done) | fail)]; done)) (J20 _ hQ hW)
        · refine aL0 dX12_worth_41 ?_
          refine iL5 dX12_worth_42 ?_
          refine iL3 dX12_worth_44 ?_
          refine invV2 rfl dX12_worth_45 kX12_375 hG.o (Nat.le_of_ble_eq_true rfl) (Nat.zero_le _) (Nat.zero_le _) (C_X12_frees hG hW hf hl (by omega) (by omega) (fun h21 hx21 => konI ?_))
          replace hQ := hQ.tr (Mq.z hx21)
          replace hW := hx21.w hW
          refine R_ifB_eq dX12_worth_48 (fun hb48 => ?_) (fun hb48 => ?_)
          · refine R_iconst_0 dX12_worth_55 ?_
            exact topV (v := bI (decide (0 < cntB (frN w c) q) || frN w c q)) (by first | (rw [bI_t (by first | (simp only [hb38, Bool.true_or]; done) | fail)]; done) | (rw [bI_t (by first | (simp only [hb48, Bool.or_true]; done) | fail)]; done) | (rw [bI_f (by first | (simp only [hb38, hb48, Bool.or_self]; done) | fail)]; done)) (J20 _ hQ hW)
          · refine R_iconst_1 dX12_worth_51 ?_
            refine R_goto dX12_worth_52 ?_
            exact topV (v := bI (decide (0 < cntB (frN w c) q) || frN w c q)) (by first | (rw [bI_t (by first | (simp only [hb38, Bool.true_or]; done) | fail)]; done) | (rw [bI_t (by first | (simp only [hb48, Bool.or_true]; done) | fail)]; done) | (rw [bI_f (by first | (simp only [hb38, hb48, Bool.or_self]; done) | fail)]; done)) (J20 _ hQ hW)
      intro hJ20 hQ hW
      refine iS4 dX12_worth_56 ?_
      refine iInc5 dX12_worth_58 (winc (by omega)) ?_
      refine R_goto dX12_worth_61 ?_
      exact eqI4 (congrArg bI anyB) (ihq (by omega) _ hQ hW)
set_option maxHeartbeats 400000 in
theorem C_X12_agree {d : Nat} {g : Gs} {h : Hc} {P : Po} {M : Nat} {w : Nat → Int} (hG : MdG g M) (hW : h (M + 1) = w) (hf : WF w) (hl : LawOK w) (K0 : ∀ h', Mp M h h' 0 → P (.inl (some (vI (bset (agrP w) (w 1).toNat)))) g h') : Call (d + 10) 0 0 mX12_agree [vR M] g h P := by
  have hcs := hf.cas
  have hjd := hf.jud
  have hho := hf.hou
  refine Call_of rfl ⟨by decide +kernel, rfl⟩ (Nat.le_of_ble_eq_true rfl) rfl ?_
  refine aL0 dX12_agree_0 ?_
  refine R_iconst_0 dX12_agree_1 ?_
  refine R_putI dX12_agree_2 fX12_3 hG.o ?_
  refine storH (fun h1 e1 => ?_)
  have hP : Mp M h h1 0 := by rw [e1]; exact Mp.i h M
  replace hW : h1 (M + 1) = w := hP.w hW
  have hQ : Mz M h1 h1 := Mz.rf _ _
  refine aL0 dX12_agree_5 ?_
  refine invV0 rfl dX12_agree_6 kX12_481 hG.o (Nat.le_of_ble_eq_true rfl) (Nat.zero_le _) (Nat.zero_le _) (C_X12_waiting hG hW hf (konI ?_))
  refine iS1 dX12_agree_9 ?_
  refine R_iconst_0 dX12_agree_10 ?_
  refine iS2 dX12_agree_11 ?_
  refine eqI1 (v := bset (agQ w 0 0) (w 1).toNat) (by rw [agQ_0]; rfl) ?_
  refine loopN ((w 1).toNat) (fun c => ∀ hK11 : Hc, Mz M h1 hK11 → hK11 (M + 1) = w → ∀ v3 : AV,  Run (d + 10) 0 0 mX12_agree 12 [vR M, vI (bset (agQ w c 0) (w 1).toNat), vI ((c : Nat) : Int), v3] [] g hK11 P) (fun c hcnc ihc hK11 hQ hW v3 => ?_) (0) (Nat.zero_le _) _ hQ hW _
  refine iL2 dX12_agree_12 ?_
  refine aL0 dX12_agree_13 ?_
  refine invV0 rfl dX12_agree_14 kX12_90 hG.o (Nat.le_of_ble_eq_true rfl) (Nat.zero_le _) (Nat.zero_le _) (C_X12_cases hG hW hf (konI ?_))
  have hcs := hf.cas
  refine R_icmp_ge dX12_agree_17 (fun hb17 => ?_) (fun hb17 => ?_)
  · have e9 : c = (w 1).toNat := by omega
    refine eqI1 (v := bset (agrP w) (w 1).toNat) (by rw [← e9]; exact agQ_all hf e9) ?_
    refine iL1 dX12_agree_59 ?_
    exact R_iret dX12_agree_60 rfl (K0 _ (hP.q hQ))
  · refine R_iconst_0 dX12_agree_20 ?_
    refine iS3 dX12_agree_21 ?_
    refine loopN ((w 0).toNat) (fun q => ∀ hK12 : Hc, Mz M h1 hK12 → hK12 (M + 1) = w →  Run (d + 10) 0 0 mX12_agree 22 [vR M, vI (bset (agQ w c q) (w 1).toNat), vI ((c : Nat) : Int), vI ((q : Nat) : Int)] [] g hK12 P) (fun q hcnq ihq hK12 hQ hW  => ?_) (0) (Nat.zero_le _) _ hQ hW
    refine iL3 dX12_agree_22 ?_
    refine aL0 dX12_agree_23 ?_
    refine invV0 rfl dX12_agree_24 kX12_98 hG.o (Nat.le_of_ble_eq_true rfl) (Nat.zero_le _) (Nat.zero_le _) (C_X12_judges hG hW hf (konI ?_))
    have hjd := hf.jud
    refine R_icmp_ge dX12_agree_27 (fun hb27 => ?_) (fun hb27 => ?_)
    · refine iInc2 dX12_agree_53 (winc (by omega)) ?_
      refine R_goto dX12_agree_56 ?_
      exact eqI1 (by rw [show q = (w 0).toNat by omega, agQ_n]) (ihc (by omega) _ hQ hW _)
    · refine aL0 dX12_agree_30 ?_
      refine iL3 dX12_agree_31 ?_
      refine iL2 dX12_agree_32 ?_
      refine invV2 rfl dX12_agree_33 kX12_375 hG.o (Nat.le_of_ble_eq_true rfl) (Nat.zero_le _) (Nat.zero_le _) (C_X12_frees hG hW hf hl (by omega) (by omega) (fun h13 hx13 => konI ?_))
      replace hQ := hQ.tr (Mq.z hx13)
      replace hW := hx13.w hW
      refine R_ifB_ne dX12_agree_36 (fun hb36 => ?_) (fun hb36 => ?_)
      · refine iInc3 dX12_agree_47 (winc (by omega)) ?_
        refine R_goto dX12_agree_50 ?_
        exact eqI1 (by first | (rw [agQ_t hb36]; done) | (rw [bset_rem (by omega) (by omega), agQ_f hb36]; done)) (ihq (by omega) _ hQ hW)
      · refine iL1 dX12_agree_39 ?_
        refine R_iconst_1 dX12_agree_40 ?_
        refine iL2 dX12_agree_41 ?_
        refine R_ishl dX12_agree_42 ?_
        refine R_iconst_m1 dX12_agree_43 ?_
        refine R_ixor dX12_agree_44 ?_
        refine R_iand dX12_agree_45 ?_
        refine iS1 dX12_agree_46 ?_
        refine iInc3 dX12_agree_47 (winc (by omega)) ?_
        refine R_goto dX12_agree_50 ?_
        exact eqI1 (by first | (rw [agQ_t hb36]; done) | (rw [bset_rem (by omega) (by omega), agQ_f hb36]; done)) (ihq (by omega) _ hQ hW)
set_option maxHeartbeats 400000 in
theorem C_X12_twins {d : Nat} {g : Gs} {h : Hc} {P : Po} {M : Nat} {w : Nat → Int} (hG : MdG g M) (hW : h (M + 1) = w) (hf : WF w) (K0 : ∀ h', Mp M h h' 0 → P (.inl (some (vI (((twF w (w 1).toNat (w 1).toNat : Nat) : Int))))) g h') : Call (d + 2) 0 0 mX12_twins [vR M] g h P := by
  have hcs := hf.cas
  have hjd := hf.jud
  have hho := hf.hou
  refine Call_of rfl ⟨by decide +kernel, rfl⟩ (Nat.le_of_ble_eq_true rfl) rfl ?_
  refine aL0 dX12_twins_0 ?_
  refine R_iconst_0 dX12_twins_1 ?_
  refine R_putI dX12_twins_2 fX12_3 hG.o ?_
  refine storH (fun h1 e1 => ?_)
  have hP : Mp M h h1 0 := by rw [e1]; exact Mp.i h M
  replace hW : h1 (M + 1) = w := hP.w hW
  have hQ : Mz M h1 h1 := Mz.rf _ _
  refine R_iconst_0 dX12_twins_5 ?_
  refine iS1 dX12_twins_6 ?_
  refine R_iconst_0 dX12_twins_7 ?_
  refine iS2 dX12_twins_8 ?_
  refine loopN ((w 1).toNat) (fun a => ∀ v3 : AV, Run (d + 2) 0 0 mX12_twins 9 [vR M, vI ((twM w a : Nat) : Int), vI ((a : Nat) : Int), v3] [] g h1 P) (fun a hcna iha v3 => ?_) (0) (Nat.zero_le _) _
  have htl := twM_le w a
  have htm : a * a ≤ 8 * 8 := Nat.mul_le_mul (by omega) (by omega)
  refine iL2 dX12_twins_9 ?_
  refine aL0 dX12_twins_10 ?_
  refine invV0 rfl dX12_twins_11 kX12_90 hG.o (Nat.le_of_ble_eq_true rfl) (Nat.zero_le _) (Nat.zero_le _) (C_X12_cases hG hW hf (konI ?_))
  have hcs := hf.cas
  refine R_icmp_ge dX12_twins_14 (fun hb14 => ?_) (fun hb14 => ?_)
  · have e9 : a = (w 1).toNat := by omega
    subst e9
    refine iL1 dX12_twins_74 ?_
    exact R_iret dX12_twins_75 rfl (by have := K0 _ (hP.q hQ); rw [← twM_eq] at this; exact this)
  · refine R_iconst_0 dX12_twins_17 ?_
    refine iS3 dX12_twins_18 ?_
    refine loopN (a) (fun b => Run (d + 2) 0 0 mX12_twins 19 [vR M, vI (((twM w a + cntB (likB w a) b) : Nat) : Int), vI ((a : Nat) : Int), vI ((b : Nat) : Int)] [] g h1 P) (fun b hcnb ihb => ?_) (0) (Nat.zero_le _)
    have hcl := cntB_le (likB w a) b
    have hb01 := bI01 (likB w a b)
    refine iL3 dX12_twins_19 ?_
    refine iL2 dX12_twins_20 ?_
    refine R_icmp_ge dX12_twins_21 (fun hb21 => ?_) (fun hb21 => ?_)
    · refine iInc2 dX12_twins_68 (winc (by omega)) ?_
      refine R_goto dX12_twins_71 ?_
      exact eqI1 (by rw [twM_s, show b = a by omega]) (iha (by omega) _)
    · refine iL1 dX12_twins_24 ?_
      suffices J11 : Run (d + 2) 0 0 mX12_twins 60 [vR M, vI (((twM w a + cntB (likB w a) b) : Nat) : Int), vI ((a : Nat) : Int), vI ((b : Nat) : Int)] [vI (bI (likB w a b)), vI (((twM w a + cntB (likB w a) b) : Nat) : Int)] g h1 P by
        refine aL0 dX12_twins_25 ?_
        refine iL2 dX12_twins_26 ?_
        refine R_iconst_0 dX12_twins_27 ?_
        refine invV2 rfl dX12_twins_28 kX12_87 hG.o (Nat.le_of_ble_eq_true rfl) (Nat.zero_le _) (Nat.zero_le _) (C_X12_of hG hW (b := 0) (i := 100 + 7 * a) (by omega) (by omega) (konI ?_))
        have hq12 := hf.ki (c := a) (by omega)
        refine aL0 dX12_twins_31 ?_
        refine iL3 dX12_twins_32 ?_
        refine R_iconst_0 dX12_twins_33 ?_
        refine invV2 rfl dX12_twins_34 kX12_87 hG.o (Nat.le_of_ble_eq_true rfl) (Nat.zero_le _) (Nat.zero_le _) (C_X12_of hG hW (b := 0) (i := 100 + 7 * b) (by omega) (by omega) (konI ?_))
        have hq13 := hf.ki (c := b) (by omega)
        refine R_icmp_ne dX12_twins_37 (fun hb37 => ?_) (fun hb37 => ?_)
        · refine R_iconst_0 dX12_twins_59 ?_
          exact topV (v := bI (likB w a b)) (by first | (rw [bI_t (by simp [likB]; omega)]; done) | (rw [bI_f (by simp [likB]; omega)]; done)) J11
        · refine aL0 dX12_twins_40 ?_
          refine iL2 dX12_twins_41 ?_
          refine R_iconst_1 dX12_twins_42 ?_
          refine invV2 rfl dX12_twins_43 kX12_87 hG.o (Nat.le_of_ble_eq_true rfl) (Nat.zero_le _) (Nat.zero_le _) (C_X12_of hG hW (b := 1) (i := 101 + 7 * a) (by omega) (by omega) (konI ?_))
          have hq14 := hf.gr (c := a) (by omega)
          refine aL0 dX12_twins_46 ?_
          refine iL3 dX12_twins_47 ?_
          refine R_iconst_1 dX12_twins_48 ?_
          refine invV2 rfl dX12_twins_49 kX12_87 hG.o (Nat.le_of_ble_eq_true rfl) (Nat.zero_le _) (Nat.zero_le _) (C_X12_of hG hW (b := 1) (i := 101 + 7 * b) (by omega) (by omega) (konI ?_))
          have hq15 := hf.gr (c := b) (by omega)
          refine R_icmp_ne dX12_twins_52 (fun hb52 => ?_) (fun hb52 => ?_)
          · refine R_iconst_0 dX12_twins_59 ?_
            exact topV (v := bI (likB w a b)) (by first | (rw [bI_t (by simp [likB]; omega)]; done) | (rw [bI_f (by simp [likB]; omega)]; done)) J11
          · refine R_iconst_1 dX12_twins_55 ?_
            refine R_goto dX12_twins_56 ?_
            exact topV (v := bI (likB w a b)) (by first | (rw [bI_t (by simp [likB]; omega)]; done) | (rw [bI_f (by simp [likB]; omega)]; done)) J11
      refine addV dX12_twins_60 (wid (by omega) (by omega)) ?_
      refine iS1 dX12_twins_61 ?_
      refine iInc3 dX12_twins_62 (winc (by omega)) ?_
      refine R_goto dX12_twins_65 ?_
      exact eqI1 (by have := cntB_b (p := likB w a) (n := b); omega) (ihb (by omega))
set_option maxHeartbeats 400000 in
theorem C_X12_deep {d : Nat} {g : Gs} {h : Hc} {P : Po} {M : Nat} {w : Nat → Int} (hG : MdG g M) (hW : h (M + 1) = w) (hf : WF w) (K0 : ∀ h', Mp M h h' 0 → P (.inl (some (vI (depF w (w 1).toNat)))) g h') : Call (d + 2) 0 0 mX12_deep [vR M] g h P := by
  have hcs := hf.cas
  have hjd := hf.jud
  have hho := hf.hou
  refine Call_of rfl ⟨by decide +kernel, rfl⟩ (Nat.le_of_ble_eq_true rfl) rfl ?_
  refine aL0 dX12_deep_0 ?_
  refine R_iconst_0 dX12_deep_1 ?_
  refine R_putI dX12_deep_2 fX12_3 hG.o ?_
  refine storH (fun h1 e1 => ?_)
  have hP : Mp M h h1 0 := by rw [e1]; exact Mp.i h M
  replace hW : h1 (M + 1) = w := hP.w hW
  have hQ : Mz M h1 h1 := Mz.rf _ _
  refine R_iconst_0 dX12_deep_5 ?_
  refine iS1 dX12_deep_6 ?_
  refine R_iconst_0 dX12_deep_7 ?_
  refine iS2 dX12_deep_8 ?_
  refine loopN ((w 1).toNat) (fun c => ∀ v3 v4 : AV, Run (d + 2) 0 0 mX12_deep 9 [vR M, vI (depF w c), vI ((c : Nat) : Int), v3, v4] [] g h1 P) (fun c hcnc ihc v3 v4 => ?_) (0) (Nat.zero_le _) _ _
  refine iL2 dX12_deep_9 ?_
  refine aL0 dX12_deep_10 ?_
  refine invV0 rfl dX12_deep_11 kX12_90 hG.o (Nat.le_of_ble_eq_true rfl) (Nat.zero_le _) (Nat.zero_le _) (C_X12_cases hG hW hf (konI ?_))
  have hcs := hf.cas
  refine R_icmp_ge dX12_deep_14 (fun hb14 => ?_) (fun hb14 => ?_)
  · have e9 : c = (w 1).toNat := by omega
    subst e9
    refine iL1 dX12_deep_55 ?_
    exact R_iret dX12_deep_56 rfl (K0 _ (hP.q hQ))
  · refine R_iconst_0 dX12_deep_17 ?_
    refine iS3 dX12_deep_18 ?_
    refine iL2 dX12_deep_19 ?_
    refine iS4 dX12_deep_20 ?_
    refine loopN (8) (fun q => ∀ o : Int, -1 ≤ o → o + q ≤ c → q + chF w (8 - q) o = chF w 8 (c : Int) → Run (d + 2) 0 0 mX12_deep 22 [vR M, vI (depF w c), vI ((c : Nat) : Int), vI ((q : Nat) : Int), vI o] [] g h1 P) (fun q hcnq ihq o ho1 ho2 ho3 => ?_) (0) (Nat.zero_le _) (c : Int) (by omega) (by omega) (Nat.zero_add _)
    refine iL4 dX12_deep_22 ?_
    refine R_iconst_m1 dX12_deep_24 ?_
    refine R_icmp_eq dX12_deep_25 (fun hb25 => ?_) (fun hb25 => ?_)
    · have e8 : q = chF w 8 (c : Int) := by rw [← ho3, chF_neg (by omega)]; omega
      refine iL1 dX12_deep_43 ?_
      refine iL3 dX12_deep_44 ?_
      refine R_mmax dX12_deep_45 kX12_313 lb_max (Nat.le_of_ble_eq_true rfl) ?_
      refine topV (v := depF w (c + 1)) (by rw [depF_s, e8]; rfl) ?_
      refine iS1 dX12_deep_48 ?_
      refine iInc2 dX12_deep_49 (winc (by omega)) ?_
      refine R_goto dX12_deep_52 ?_
      exact ihc (by omega) _ _
    · refine iInc3 dX12_deep_28 (winc (by omega)) ?_
      refine aL0 dX12_deep_31 ?_
      refine iL4 dX12_deep_32 ?_
      refine topV (v := ((o.toNat : Nat) : Int)) (by omega) ?_
      refine R_iconst_3 dX12_deep_34 ?_
      refine invV2 rfl dX12_deep_35 kX12_87 hG.o (Nat.le_of_ble_eq_true rfl) (Nat.zero_le _) (Nat.zero_le _) (C_X12_of hG hW (b := 3) (i := 103 + 7 * o.toNat) (by omega) (by omega) (konI ?_))
      have hq11 := hf.on (c := o.toNat) (by omega)
      have hlc := hf.lea o.toNat (by omega)
      refine iS4 dX12_deep_38 ?_
      refine R_goto dX12_deep_40 ?_
      exact ihq (by omega) _ (by omega) (by omega) (by rw [← ho3, show 8 - q = (8 - (q + 1)) + 1 by omega, chF_pos (by omega)]; omega)
set_option maxHeartbeats 400000 in
theorem C_X12_odds {d : Nat} {g : Gs} {h : Hc} {P : Po} {M : Nat} {w : Nat → Int} (hG : MdG g M) (hW : h (M + 1) = w) (hf : WF w) {x y : Int} (KE1 : ¬ (0 ≤ x ∧ x < w 0) → ∀ h', Mp M h h' 1 → P (.inl (some (vI 0))) g h') (KE2 : 0 ≤ x ∧ x < w 0 → ¬ (0 ≤ y ∧ y ≤ 4) → ∀ h', Mp M h h' 2 → P (.inl (some (vI 0))) g h') (K0 : ∀ j n : Nat, x = (j : Int) → y = (n : Int) → (j : Int) < w 0 → n ≤ 4 → ∀ h', Mp M h h' 0 → P (.inl (some (vI (oddF w j n)))) g h') : Call (d + 3) 0 0 mX12_odds [vR M, vI x, vI y] g h P := by
  have hcs := hf.cas
  have hjd := hf.jud
  have hho := hf.hou
  refine Call_of rfl ⟨by decide +kernel, rfl⟩ (Nat.le_of_ble_eq_true rfl) rfl ?_
  refine aL0 dX12_odds_0 ?_
  refine R_iconst_0 dX12_odds_1 ?_
  refine R_putI dX12_odds_2 fX12_3 hG.o ?_
  refine storH (fun h1 e1 => ?_)
  have hP : Mp M h h1 0 := by rw [e1]; exact Mp.i h M
  replace hW : h1 (M + 1) = w := hP.w hW
  have hQ : Mz M h1 h1 := Mz.rf _ _
  refine aL0 dX12_odds_5 ?_
  refine aL0 dX12_odds_6 ?_
  refine iL1 dX12_odds_7 ?_
  refine invV1 rfl dX12_odds_8 kX12_383 hG.o (Nat.le_of_ble_eq_true rfl) (Nat.zero_le _) (Nat.zero_le _) (C_X12_noJudge hG hW hf (konI ?_))
  refine R_iconst_1 dX12_odds_11 ?_
  refine invV2 rfl dX12_odds_12 kX12_274 hG.o (Nat.le_of_ble_eq_true rfl) (Nat.zero_le _) (Nat.zero_le _) (C_X12_throwsIf hG (fun h11 hth11 => konI ?_))
  have hPE11 : ∀ hbb : (noB x (w 0)) = true, Mp M h h11 1 := fun hbb => hth11.t (hP.q hQ) hbb
  have hQE11 : ∀ hbb : (noB x (w 0)) = false, Mz M h1 h11 := fun hbb => hth11.q hQ hbb
  have hWE11 : ∀ hbb : (noB x (w 0)) = false, h11 (M + 1) = w := fun hbb => hth11.w hW hbb
  refine R_ifB_ne dX12_odds_15 (fun hb15 => ?_) (fun hb15 => ?_)
  · have hPX := hPE11 hb15
    refine R_iconst_0 dX12_odds_40 ?_
    exact R_iret dX12_odds_41 rfl (KE1 (noB_t hb15) _ hPX)
  · replace hQ := hQE11 hb15
    replace hW := hWE11 hb15
    have hx1 := noB_f hb15
    refine aL0 dX12_odds_18 ?_
    suffices J12 : Run (d + 3) 0 0 mX12_odds 33 [vR M, vI x, vI y, vU, vU] [vI (bI (noB y 5)), vR M] g h11 P by
      refine iL2 dX12_odds_19 ?_
      refine R_iconst_0 dX12_odds_20 ?_
      refine R_iconst_4 dX12_odds_21 ?_
      refine invS3 rfl dX12_odds_22 kX12_101 (Nat.le_of_ble_eq_true rfl) (Nat.zero_le _) (Nat.zero_le _) (C_X12_in (konI ?_))
      refine R_ifB_ne dX12_odds_25 (fun hb25 => ?_) (fun hb25 => ?_)
      · refine R_iconst_0 dX12_odds_32 ?_
        exact topV (v := bI (noB y 5)) (by first | (rw [bI_t (by simp at hb25; simp [noB]; omega)]; done) | (rw [bI_f (by simp at hb25; simp [noB]; omega)]; done)) J12
      · refine R_iconst_1 dX12_odds_28 ?_
        refine R_goto dX12_odds_29 ?_
        exact topV (v := bI (noB y 5)) (by first | (rw [bI_t (by simp at hb25; simp [noB]; omega)]; done) | (rw [bI_f (by simp at hb25; simp [noB]; omega)]; done)) J12
    refine R_iconst_2 dX12_odds_33 ?_
    refine invV2 rfl dX12_odds_34 kX12_274 hG.o (Nat.le_of_ble_eq_true rfl) (Nat.zero_le _) (Nat.zero_le _) (C_X12_throwsIf hG (fun h13 hth13 => konI ?_))
    have hPE13 : ∀ hbb : (noB y 5) = true, Mp M h h13 2 := fun hbb => hth13.t (hP.q hQ) hbb
    have hQE13 : ∀ hbb : (noB y 5) = false, Mz M h1 h13 := fun hbb => hth13.q hQ hbb
    have hWE13 : ∀ hbb : (noB y 5) = false, h13 (M + 1) = w := fun hbb => hth13.w hW hbb
    refine R_ifB_eq dX12_odds_37 (fun hb37 => ?_) (fun hb37 => ?_)
    · replace hQ := hQE13 hb37
      replace hW := hWE13 hb37
      have hx2 := noB_f hb37
      obtain ⟨j, rfl⟩ : ∃ j : Nat, x = (j : Int) := ⟨x.toNat, by omega⟩
      obtain ⟨n, rfl⟩ : ∃ n : Nat, y = (n : Int) := ⟨y.toNat, by omega⟩
      have hnv := hf.nv (j := j) (by omega)
      refine R_sipush dX12_odds_42 (by decide) ?_
      refine iS3 dX12_odds_45 ?_
      refine R_iconst_0 dX12_odds_46 ?_
      refine iS4 dX12_odds_47 ?_
      refine loopN (n) (fun q => Run (d + 3) 0 0 mX12_odds 49 [vR M, vI ((j : Nat) : Int), vI ((n : Nat) : Int), vI (oddF w j q), vI ((q : Nat) : Int)] [] g h13 P) (fun q hcnq ihq => ?_) (0) (Nat.zero_le _)
      have hin9 := hf.inn (((w 4).toNat + q) % 12) (by omega)
      refine iL4 dX12_odds_49 ?_
      refine iL2 dX12_odds_51 ?_
      refine R_icmp_ge dX12_odds_52 (fun hb52 => ?_) (fun hb52 => ?_)
      · have e9 : q = n := by omega
        subst e9
        refine iL3 dX12_odds_104 ?_
        exact R_iret dX12_odds_105 rfl (K0 j q rfl rfl (by omega) (by omega) _ (hP.q hQ))
      · refine iL3 dX12_odds_55 ?_
        refine R_bipush dX12_odds_56 (by decide) ?_
        refine R_iconst_0 dX12_odds_58 ?_
        refine aL0 dX12_odds_59 ?_
        refine R_getR dX12_odds_60 fX12_13.r hG.o rfl ?_
        refine R_bipush dX12_odds_63 (by decide) ?_
        refine aL0 dX12_odds_65 ?_
        refine R_getR dX12_odds_66 fX12_13.r hG.o rfl ?_
        refine R_iconst_4 dX12_odds_69 ?_
        refine ialdN (k := 4) dX12_odds_70 hG.a1 rfl (by decide) ?_
        refine topV (v := w 4) (congrFun hW _) ?_
        have hq14 := hf.hou
        refine topV (v := (((w 4).toNat : Nat) : Int)) (by omega) ?_
        refine iL4 dX12_odds_71 ?_
        refine addV dX12_odds_73 (v := ((((w 4).toNat + q) : Nat) : Int)) (by rw [wid (by omega) (by omega)]; omega) ?_
        refine R_bipush dX12_odds_74 (by decide) ?_
        refine remV dX12_odds_76 (by decide) (v := ((((w 4).toNat + q) % 12 : Nat) : Int)) (remN (k := 12) (by omega) (by decide)) ?_
        refine addV dX12_odds_77 (v := (((8 + (((w 4).toNat + q) % 12)) : Nat) : Int)) (by rw [wid (by omega) (by omega)]; omega) ?_
        refine ialdN dX12_odds_78 hG.a1 rfl (by omega) ?_
        refine topV (v := w (8 + (((w 4).toNat + q) % 12))) (congrFun hW _) ?_
        refine R_bipush dX12_odds_79 (by decide) ?_
        refine aL0 dX12_odds_81 ?_
        refine iL1 dX12_odds_82 ?_
        refine R_iconst_2 dX12_odds_83 ?_
        refine invV2x rfl dX12_odds_84 kX12_280 hG.o (Nat.le_of_ble_eq_true rfl) rfl (Nat.zero_le _) (Nat.zero_le _) (C_X12_ofJudge hG hW (b := 2) (i := 82 + 4 * j) (by omega) (by omega) (konI ?_))
        have hq15 := hf.nv (j := j) (by omega)
        refine mulV dX12_odds_87 (wid (by omega) (by omega)) ?_
        refine subV dX12_odds_88 (wid (by omega) (by omega)) ?_
        refine R_mmax dX12_odds_89 kX12_313 lb_max (Nat.le_of_ble_eq_true rfl) ?_
        refine topV (v := oddC w j q) (rfl) ?_
        have hoc := oddC_rng hf (j := j) (k := q) (by omega)
        have hof := oddF_rng hf (j := j) (by omega) q
        have hml := mulB hof (b := 100 - oddC w j q) (by omega)
        refine subV dX12_odds_92 (wid (by omega) (by omega)) ?_
        refine mulV dX12_odds_93 (wid (by omega) (by omega)) ?_
        refine R_bipush dX12_odds_94 (by decide) ?_
        refine divV dX12_odds_96 (by decide) (divI (by omega) (by omega) (by omega)) ?_
        refine iS3 dX12_odds_97 ?_
        refine iInc4 dX12_odds_98 (winc (by omega)) ?_
        refine R_goto dX12_odds_101 ?_
        exact eqI3 (rfl) (ihq (by omega))
    · have hPX := hPE13 hb37
      refine R_iconst_0 dX12_odds_40 ?_
      exact R_iret dX12_odds_41 rfl (KE2 hx1 (fun h9 => noB_t hb37 (by omega)) _ hPX)
set_option maxHeartbeats 400000 in
theorem C_X12_ofLog {d : Nat} {g : Gs} {h : Hc} {P : Po} {M : Nat} {w : Nat → Int} (hG : MdG g M) (hW : h (M + 1) = w) (hf : WF w) {a i k : Nat} (hk : k = 156 + 6 * a + i) (hb : k < 516) (K : P (.inl (some (vI (w k)))) g h) : Call (d + 0) 0 0 mX12_ofLog [vR M, vI ((a : Nat) : Int), vI ((i : Nat) : Int)] g h P := by
  refine Call_of rfl ⟨by decide +kernel, rfl⟩ (Nat.le_of_ble_eq_true rfl) rfl ?_
  refine aL0 dX12_ofLog_0 ?_
  refine R_getR dX12_ofLog_1 fX12_13.r hG.o rfl ?_
  refine R_sipush dX12_ofLog_4 (by decide) ?_
  refine R_bipush dX12_ofLog_7 (by decide) ?_
  refine iL1 dX12_ofLog_9 ?_
  refine mulV dX12_ofLog_10 (v := (((6 * a) : Nat) : Int)) (by rw [wid (by omega) (by omega)]; omega) ?_
  refine addV dX12_ofLog_11 (v := (((156 + (6 * a)) : Nat) : Int)) (by rw [wid (by omega) (by omega)]; omega) ?_
  refine iL2 dX12_ofLog_12 ?_
  refine addV dX12_ofLog_13 (v := ((((156 + (6 * a)) + i) : Nat) : Int)) (by rw [wid (by omega) (by omega)]; omega) ?_
  refine ialdN dX12_ofLog_14 hG.a1 rfl (by omega) ?_
  refine topV (v := w (156 + 6 * a + i)) ((congrFun hW _).trans (congrArg w (by omega))) ?_
  exact R_iret dX12_ofLog_15 rfl (by rw [hk] at K; exact K)
set_option maxHeartbeats 400000 in
theorem C_X12_log {d : Nat} {g : Gs} {h : Hc} {P : Po} {M : Nat} {w : Nat → Int} (hG : MdG g M) (hW : h (M + 1) = w) (hf : WF w) {x y : Int} (KE : ¬ (0 ≤ y ∧ y < 6) → ∀ h', Mp M h h' 1 → P (.inl (some (vI 0))) g h') (K0 : ∀ k : Nat, y = (k : Int) → k < 6 → ∀ h', Mp M h h' 0 → P (.inl (some (vI (lookW w x k)))) g h') : Call (d + 2) 0 0 mX12_log [vR M, vI x, vI y] g h P := by
  have hcs := hf.cas
  have hjd := hf.jud
  have hho := hf.hou
  refine Call_of rfl ⟨by decide +kernel, rfl⟩ (Nat.le_of_ble_eq_true rfl) rfl ?_
  refine aL0 dX12_log_0 ?_
  refine R_iconst_0 dX12_log_1 ?_
  refine R_putI dX12_log_2 fX12_3 hG.o ?_
  refine storH (fun h1 e1 => ?_)
  have hP : Mp M h h1 0 := by rw [e1]; exact Mp.i h M
  replace hW : h1 (M + 1) = w := hP.w hW
  have hQ : Mz M h1 h1 := Mz.rf _ _
  refine aL0 dX12_log_5 ?_
  suffices J11 : Run (d + 2) 0 0 mX12_log 20 [vR M, vI x, vI y] [vI (bI (noB y 6)), vR M] g h1 P by
    refine iL2 dX12_log_6 ?_
    refine R_iconst_0 dX12_log_7 ?_
    refine R_iconst_5 dX12_log_8 ?_
    refine invS3 rfl dX12_log_9 kX12_101 (Nat.le_of_ble_eq_true rfl) (Nat.zero_le _) (Nat.zero_le _) (C_X12_in (konI ?_))
    refine R_ifB_ne dX12_log_12 (fun hb12 => ?_) (fun hb12 => ?_)
    · refine R_iconst_0 dX12_log_19 ?_
      exact topV (v := bI (noB y 6)) (by first | (rw [bI_t (by simp at hb12; simp [noB]; omega)]; done) | (rw [bI_f (by simp at hb12; simp [noB]; omega)]; done)) J11
    · refine R_iconst_1 dX12_log_15 ?_
      refine R_goto dX12_log_16 ?_
      exact topV (v := bI (noB y 6)) (by first | (rw [bI_t (by simp at hb12; simp [noB]; omega)]; done) | (rw [bI_f (by simp at hb12; simp [noB]; omega)]; done)) J11
  refine R_iconst_1 dX12_log_20 ?_
  refine invV2 rfl dX12_log_21 kX12_274 hG.o (Nat.le_of_ble_eq_true rfl) (Nat.zero_le _) (Nat.zero_le _) (C_X12_throwsIf hG (fun h12 hth12 => konI ?_))
  have hPE12 : ∀ hbb : (noB y 6) = true, Mp M h h12 1 := fun hbb => hth12.t (hP.q hQ) hbb
  have hQE12 : ∀ hbb : (noB y 6) = false, Mz M h1 h12 := fun hbb => hth12.q hQ hbb
  have hWE12 : ∀ hbb : (noB y 6) = false, h12 (M + 1) = w := fun hbb => hth12.w hW hbb
  refine R_ifB_eq dX12_log_24 (fun hb24 => ?_) (fun hb24 => ?_)
  · replace hQ := hQE12 hb24
    replace hW := hWE12 hb24
    have hx1 := noB_f hb24
    obtain ⟨k, rfl⟩ : ∃ k : Nat, y = (k : Int) := ⟨y.toNat, by omega⟩
    refine iL1 dX12_log_29 ?_
    refine R_iconst_0 dX12_log_30 ?_
    refine aL0 dX12_log_31 ?_
    refine R_getR dX12_log_32 fX12_13.r hG.o rfl ?_
    refine R_bipush dX12_log_35 (by decide) ?_
    refine ialdN (k := 6) dX12_log_37 hG.a1 rfl (by decide) ?_
    refine topV (v := w 6) (congrFun hW _) ?_
    have hq13 := hf.log
    refine R_iconst_1 dX12_log_38 ?_
    refine subV dX12_log_39 (wid (by omega) (by omega)) ?_
    refine invS3 rfl dX12_log_40 kX12_101 (Nat.le_of_ble_eq_true rfl) (Nat.zero_le _) (Nat.zero_le _) (C_X12_in (konI ?_))
    refine R_ifB_eq dX12_log_43 (fun hb43 => ?_) (fun hb43 => ?_)
    · refine R_sipush dX12_log_55 (by decide) ?_
      exact R_iret dX12_log_58 rfl (PeqI (K0 k rfl (by omega) _ (hP.q hQ)) (by simp at hb43; unfold lookW; first | (rw [if_pos (by omega)]; done) | (rw [if_neg (by omega)]; done)))
    · have hlg := hf.log
      have hx9 := of_decide_eq_true hb43
      refine aL0 dX12_log_46 ?_
      refine iL1 dX12_log_47 ?_
      refine topV (v := ((x.toNat : Nat) : Int)) (by simp at hb43; omega) ?_
      refine iL2 dX12_log_48 ?_
      refine invV2 rfl dX12_log_49 kX12_502 hG.o (Nat.le_of_ble_eq_true rfl) (Nat.zero_le _) (Nat.zero_le _) (C_X12_ofLog hG hW hf (k := (156 + 6 * x.toNat + k)) (by omega) (by omega) (konI ?_))
      refine R_goto dX12_log_52 ?_
      exact R_iret dX12_log_58 rfl (PeqI (K0 k rfl (by omega) _ (hP.q hQ)) (by simp at hb43; unfold lookW; first | (rw [if_pos (by omega)]; done) | (rw [if_neg (by omega)]; done)))
  · have hPX := hPE12 hb24
    refine R_iconst_0 dX12_log_27 ?_
    exact R_iret dX12_log_28 rfl (KE (noB_t hb24) _ hPX)
theorem cntB_mono {p : Nat → Bool} : ∀ {a b : Nat}, a ≤ b → cntB p a ≤ cntB p b
  | a, 0, h => by rw [show a = 0 by omega]; exact Nat.le_refl _
  | a, b + 1, h => by
    by_cases e : a = b + 1
    · rw [e]; exact Nat.le_refl _
    · have := cntB_mono (p := p) (a := a) (b := b) (by omega)
      cases hp : p b
      · rw [cntB_f hp]; exact this
      · rw [cntB_t hp]; omega
theorem cntD_t {p : Nat → Bool} {n q : Nat} (h : q < n) (hp : p (n - (q + 1)) = true) : cntB p n - cntB p (n - q) + 1 = cntB p n - cntB p (n - (q + 1)) := by
  have e : cntB p (n - q) = cntB p (n - (q + 1)) + 1 := by rw [show n - q = n - (q + 1) + 1 by omega, cntB_t hp]
  have := cntB_mono (p := p) (a := n - q) (b := n) (by omega)
  omega
theorem cntD_f {p : Nat → Bool} {n q : Nat} (h : q < n) (hp : p (n - (q + 1)) = false) : cntB p n - cntB p (n - q) = cntB p n - cntB p (n - (q + 1)) := by
  rw [show n - q = n - (q + 1) + 1 by omega, cntB_f hp]
theorem ledD_t {w : Nat → Int} {p : Nat → Bool} {n q : Nat} (h : q < n) (hp : p (n - (q + 1)) = true) : w (156 + 6 * (n - (q + 1))) = (if ff p (n - (q + 1)) n < 0 then -1 else w (156 + 6 * (ff p (n - (q + 1)) n).toNat)) := by
  rw [ff_t (by omega) hp, if_neg (by omega)]
  congr 1
set_option maxHeartbeats 400000 in
theorem C_X12_led {d : Nat} {g : Gs} {h : Hc} {P : Po} {M : Nat} {w : Nat → Int} (hG : MdG g M) (hW : h (M + 1) = w) (hf : WF w) {b : Bool} {x : Int} (KE : ¬ (0 ≤ x ∧ x < w 1) → ∀ h', Mp M h h' 1 → P (.inl (some (vI 0))) g h') (K0 : ∀ c : Nat, x = (c : Int) → (c : Int) < w 1 → ∀ h', Mp M h h' 0 → P (.inl (some (vI (if b then latD w (c : Int) else ((cntB (ledP w (c : Int)) (w 6).toNat : Nat) : Int))))) g h') : Call (d + 3) 0 0 mX12_led [vR M, vI x, vI (bI (b))] g h P := by
  have hcs := hf.cas
  have hjd := hf.jud
  have hho := hf.hou
  refine Call_of rfl ⟨by decide +kernel, rfl⟩ (Nat.le_of_ble_eq_true rfl) rfl ?_
  refine aL0 dX12_led_0 ?_
  refine R_iconst_0 dX12_led_1 ?_
  refine R_putI dX12_led_2 fX12_3 hG.o ?_
  refine storH (fun h1 e1 => ?_)
  have hP : Mp M h h1 0 := by rw [e1]; exact Mp.i h M
  replace hW : h1 (M + 1) = w := hP.w hW
  have hQ : Mz M h1 h1 := Mz.rf _ _
  refine aL0 dX12_led_5 ?_
  refine aL0 dX12_led_6 ?_
  refine iL1 dX12_led_7 ?_
  refine invV1 rfl dX12_led_8 kX12_404 hG.o (Nat.le_of_ble_eq_true rfl) (Nat.zero_le _) (Nat.zero_le _) (C_X12_noCase hG hW hf (konI ?_))
  refine R_iconst_1 dX12_led_11 ?_
  refine invV2 rfl dX12_led_12 kX12_274 hG.o (Nat.le_of_ble_eq_true rfl) (Nat.zero_le _) (Nat.zero_le _) (C_X12_throwsIf hG (fun h11 hth11 => konI ?_))
  have hPE11 : ∀ hbb : (noB x (w 1)) = true, Mp M h h11 1 := fun hbb => hth11.t (hP.q hQ) hbb
  have hQE11 : ∀ hbb : (noB x (w 1)) = false, Mz M h1 h11 := fun hbb => hth11.q hQ hbb
  have hWE11 : ∀ hbb : (noB x (w 1)) = false, h11 (M + 1) = w := fun hbb => hth11.w hW hbb
  refine R_ifB_eq dX12_led_15 (fun hb15 => ?_) (fun hb15 => ?_)
  · replace hQ := hQE11 hb15
    replace hW := hWE11 hb15
    have hx1 := noB_f hb15
    obtain ⟨c, rfl⟩ : ∃ c : Nat, x = (c : Int) := ⟨x.toNat, by omega⟩
    refine R_iconst_0 dX12_led_20 ?_
    refine iS3 dX12_led_21 ?_
    refine R_iconst_m1 dX12_led_22 ?_
    refine iS4 dX12_led_23 ?_
    refine aL0 dX12_led_25 ?_
    refine R_getR dX12_led_26 fX12_13.r hG.o rfl ?_
    refine R_bipush dX12_led_29 (by decide) ?_
    refine ialdN (k := 6) dX12_led_31 hG.a1 rfl (by decide) ?_
    refine topV (v := w 6) (congrFun hW _) ?_
    have hq12 := hf.log
    refine R_iconst_1 dX12_led_32 ?_
    refine subV dX12_led_33 (wid (by omega) (by omega)) ?_
    refine iS5 dX12_led_34 ?_
    have hlg := hf.log
    refine eqI3 (v := ((cntB (ledP w (c : Int)) (w 6).toNat - cntB (ledP w (c : Int)) ((w 6).toNat - 0) : Nat) : Int)) (by rw [Nat.sub_zero, Nat.sub_self]; rfl) ?_
    refine eqI4 (v := (if ff (ledP w (c : Int)) ((w 6).toNat - 0) (w 6).toNat < 0 then -1 else w (156 + 6 * (ff (ledP w (c : Int)) ((w 6).toNat - 0) (w 6).toNat).toNat))) (by rw [ff_end (by omega)]; rfl) ?_
    refine eqI5 (v := w 6 - 1 - ((0 : Nat) : Int)) (by omega) ?_
    refine loopN ((w 6).toNat) (fun q => Run (d + 3) 0 0 mX12_led 36 [vR M, vI ((c : Nat) : Int), vI (bI (b)), vI (((cntB (ledP w (c : Int)) (w 6).toNat - cntB (ledP w (c : Int)) ((w 6).toNat - q)) : Nat) : Int), vI ((if ff (ledP w (c : Int)) ((w 6).toNat - q) (w 6).toNat < 0 then -1 else w (156 + 6 * (ff (ledP w (c : Int)) ((w 6).toNat - q) (w 6).toNat).toNat))), vI (w 6 - 1 - (q : Int))] [] g h11 P) (fun q hcnq ihq => ?_) (0) (Nat.zero_le _)
    have hcl := cntB_le (ledP w (c : Int)) (w 6).toNat
    refine iL5 dX12_led_36 ?_
    refine R_if_lt dX12_led_38 (fun hb38 => ?_) (fun hb38 => ?_)
    · have e9 : (w 6).toNat - q = 0 := by omega
      rw [e9]
      refine iL2 dX12_led_73 ?_
      refine R_ifB_eq dX12_led_74 (fun hb74 => ?_) (fun hb74 => ?_)
      · refine iL3 dX12_led_82 ?_
        exact R_iret dX12_led_83 rfl (PeqI (K0 c rfl (by omega) _ (hP.q hQ)) (by first | (rw [if_pos hb74]; rfl) | (rw [if_neg (by rw [hb74]; decide)]; rfl)))
      · refine iL4 dX12_led_77 ?_
        refine R_goto dX12_led_79 ?_
        exact R_iret dX12_led_83 rfl (PeqI (K0 c rfl (by omega) _ (hP.q hQ)) (by first | (rw [if_pos hb74]; rfl) | (rw [if_neg (by rw [hb74]; decide)]; rfl)))
    · refine aL0 dX12_led_41 ?_
      refine iL5 dX12_led_42 ?_
      refine topV (v := ((((w 6).toNat - (q + 1)) : Nat) : Int)) (by omega) ?_
      refine R_iconst_2 dX12_led_44 ?_
      refine invV2 rfl dX12_led_45 kX12_502 hG.o (Nat.le_of_ble_eq_true rfl) (Nat.zero_le _) (Nat.zero_le _) (C_X12_ofLog hG hW hf (i := 2) (k := (158 + 6 * ((w 6).toNat - (q + 1)))) (by omega) (by omega) (konI ?_))
      refine iL1 dX12_led_48 ?_
      refine R_icmp_eq dX12_led_49 (fun hb49 => ?_) (fun hb49 => ?_)
      · refine iInc3 dX12_led_55 (winc (by omega)) ?_
        refine aL0 dX12_led_58 ?_
        refine iL5 dX12_led_59 ?_
        refine topV (v := ((((w 6).toNat - (q + 1)) : Nat) : Int)) (by omega) ?_
        refine R_iconst_0 dX12_led_61 ?_
        refine invV2 rfl dX12_led_62 kX12_502 hG.o (Nat.le_of_ble_eq_true rfl) (Nat.zero_le _) (Nat.zero_le _) (C_X12_ofLog hG hW hf (i := 0) (k := (156 + 6 * ((w 6).toNat - (q + 1)))) (by omega) (by omega) (konI ?_))
        refine topV (v := w (156 + 6 * ((w 6).toNat - (q + 1)))) (rfl) ?_
        refine iS4 dX12_led_65 ?_
        refine iInc5 dX12_led_67 (wid (by omega) (by omega)) ?_
        refine R_goto dX12_led_70 ?_
        exact eqI3 (by first | (have := cntD_f (p := ledP w (c : Int)) (n := (w 6).toNat) (q := q) (by omega) (by unfold ledP; exact decide_eq_false (by omega)); omega) | (have := cntD_t (p := ledP w (c : Int)) (n := (w 6).toNat) (q := q) (by omega) (by unfold ledP; exact decide_eq_true (by omega)); omega)) (eqI4 (by first | (rw [← ff_df (p := ledP w (c : Int)) (n := (w 6).toNat) (q := q) (by omega) (by unfold ledP; exact decide_eq_false (by omega))]; done) | (exact ledD_t (p := ledP w (c : Int)) (by omega) (by unfold ledP; exact decide_eq_true (by omega)))) (eqI5 (by omega) (ihq (by omega))))
      · refine R_goto dX12_led_52 ?_
        refine iInc5 dX12_led_67 (wid (by omega) (by omega)) ?_
        refine R_goto dX12_led_70 ?_
        exact eqI3 (by first | (have := cntD_f (p := ledP w (c : Int)) (n := (w 6).toNat) (q := q) (by omega) (by unfold ledP; exact decide_eq_false (by omega)); omega) | (have := cntD_t (p := ledP w (c : Int)) (n := (w 6).toNat) (q := q) (by omega) (by unfold ledP; exact decide_eq_true (by omega)); omega)) (eqI4 (by first | (rw [← ff_df (p := ledP w (c : Int)) (n := (w 6).toNat) (q := q) (by omega) (by unfold ledP; exact decide_eq_false (by omega))]; done) | (exact ledD_t (p := ledP w (c : Int)) (by omega) (by unfold ledP; exact decide_eq_true (by omega)))) (eqI5 (by omega) (ihq (by omega))))
  · have hPX := hPE11 hb15
    refine R_iconst_0 dX12_led_18 ?_
    exact R_iret dX12_led_19 rfl (KE (noB_t hb15) _ hPX)
