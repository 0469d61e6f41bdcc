/-- how it is asked -/
def Ask (M : Nat) (h : Hc) (hr hu gr : Int) : Prop := h M 18 = hr ∧ h M 19 = hu ∧ h M 20 = gr
theorem Ask.off {M : Nat} {h h' : Hc} {hr hu gr : Int} (a : Ask M h hr hu gr) (o : Off (fun q => q = M + 8) h h') : Ask M h' hr hu gr := by unfold Ask; rw [o M (by omega)]; exact a
set_option maxHeartbeats 400000 in
theorem C_X12_hasPrecedent {d : Nat} {g : Gs} {h : Hc} {P : Po} {M : Nat} {w : Nat → Int} (hG : MdG g M) (hW : h (M + 1) = w) (hf : WF w) {x : Int} (hx1 : -1 ≤ x) (hx2 : x < 8) (K : P (.inl (some (vI (bI (precB w x))))) g h) : Call (d + 2) 0 0 mX12_hasPrecedent [vR M, vI x] g h P := by
  have hxl := hf.on (c := x.toNat) (by omega)
  refine Call_of rfl ⟨by decide +kernel, rfl⟩ (Nat.le_of_ble_eq_true rfl) rfl ?_
  suffices J1 : Run (d + 2) 0 0 mX12_hasPrecedent 35 [vR M, vI x] [vI (bI (precB w x))] g h P by
    refine iL1 dX12_hasPrecedent_0 ?_
    refine R_iconst_m1 dX12_hasPrecedent_1 ?_
    refine R_icmp_eq dX12_hasPrecedent_2 (fun hb2 => ?_) (fun hb2 => ?_)
    · refine R_iconst_0 dX12_hasPrecedent_34 ?_
      exact topV (v := bI (precB w x)) (by first | (rw [bI_t (by simp [precB, leanB]; omega)]) | (rw [bI_f (by simp [precB, leanB]; omega)])) J1
    · refine aL0 dX12_hasPrecedent_5 ?_
      refine iL1 dX12_hasPrecedent_6 ?_
      refine topV (v := ((x.toNat : Nat) : Int)) (by omega) ?_
      refine R_iconst_3 dX12_hasPrecedent_7 ?_
      refine invV2 rfl dX12_hasPrecedent_8 kX12_87 hG.o (Nat.le_of_ble_eq_true rfl) (Nat.zero_le _) (Nat.zero_le _) (C_X12_of hG hW (b := 3) (i := 103 + 7 * x.toNat) (by omega) (by omega) (konI ?_))
      have hq2 := hf.on (c := x.toNat) (by omega)
      refine R_iconst_m1 dX12_hasPrecedent_11 ?_
      refine R_icmp_eq dX12_hasPrecedent_12 (fun hb12 => ?_) (fun hb12 => ?_)
      · refine R_iconst_0 dX12_hasPrecedent_34 ?_
        exact topV (v := bI (precB w x)) (by first | (rw [bI_t (by simp [precB, leanB]; omega)]) | (rw [bI_f (by simp [precB, leanB]; omega)])) J1
      · refine aL0 dX12_hasPrecedent_15 ?_
        refine aL0 dX12_hasPrecedent_16 ?_
        refine iL1 dX12_hasPrecedent_17 ?_
        refine topV (v := ((x.toNat : Nat) : Int)) (by omega) ?_
        refine R_iconst_3 dX12_hasPrecedent_18 ?_
        refine invV2 rfl dX12_hasPrecedent_19 kX12_87 hG.o (Nat.le_of_ble_eq_true rfl) (Nat.zero_le _) (Nat.zero_le _) (C_X12_of hG hW (b := 3) (i := 103 + 7 * x.toNat) (by omega) (by omega) (konI ?_))
        have hq3 := hf.on (c := x.toNat) (by omega)
        refine topV (v := (((w (103 + 7 * x.toNat)).toNat : Nat) : Int)) (by omega) ?_
        refine R_iconst_4 dX12_hasPrecedent_22 ?_
        refine invV2 rfl dX12_hasPrecedent_23 kX12_87 hG.o (Nat.le_of_ble_eq_true rfl) (Nat.zero_le _) (Nat.zero_le _) (C_X12_of hG hW (b := 4) (i := 104 + 7 * (w (103 + 7 * x.toNat)).toNat) (by omega) (by omega) (konI ?_))
        have hq4 := hf.st (c := (w (103 + 7 * x.toNat)).toNat) (by omega)
        refine R_iconst_1 dX12_hasPrecedent_26 ?_
        refine R_icmp_ne dX12_hasPrecedent_27 (fun hb27 => ?_) (fun hb27 => ?_)
        · refine R_iconst_0 dX12_hasPrecedent_34 ?_
          exact topV (v := bI (precB w x)) (by first | (rw [bI_t (by simp [precB, leanB]; omega)]) | (rw [bI_f (by simp [precB, leanB]; omega)])) J1
        · refine R_iconst_1 dX12_hasPrecedent_30 ?_
          refine R_goto dX12_hasPrecedent_31 ?_
          exact topV (v := bI (precB w x)) (by first | (rw [bI_t (by simp [precB, leanB]; omega)]) | (rw [bI_f (by simp [precB, leanB]; omega)])) J1
  exact R_zret dX12_hasPrecedent_35 rfl (bI01 _) (K)
set_option maxHeartbeats 400000 in
theorem C_X12_factOf_0 {d : Nat} {g : Gs} {h : Hc} {P : Po} {M : Nat} {w : Nat → Int} (hG : MdG g M) (hW : h (M + 1) = w) (hf : WF w) {x n hr hu gr : Int} {j : Nat} (hj : j < 5) (hx1 : -1 ≤ x) (hx2 : x < 8) (hA : Ask M h hr hu gr) (K : P (.inl (some (vI (factW w j x hr hu gr 0)))) g h) : Call (d + 3) 0 0 mX12_factOf [vR M, vI 0, vI n, vI ((j : Nat) : Int), vI x] g h P := by
  have hxl := hf.on (c := x.toNat) (by omega)
  refine Call_of rfl ⟨by decide +kernel, rfl⟩ (Nat.le_of_ble_eq_true rfl) rfl ?_
  refine iL1 dX12_factOf_0 ?_
  refine R_tsw (tt := 56) dX12_factOf_1 (by decide) (by decide) ?_
  refine iL3 dX12_factOf_56 ?_
  exact R_iret dX12_factOf_57 rfl (K)
set_option maxHeartbeats 400000 in
theorem C_X12_factOf_1 {d : Nat} {g : Gs} {h : Hc} {P : Po} {M : Nat} {w : Nat → Int} (hG : MdG g M) (hW : h (M + 1) = w) (hf : WF w) {x n hr hu gr : Int} {j : Nat} (hj : j < 5) (hx1 : -1 ≤ x) (hx2 : x < 8) (hA : Ask M h hr hu gr) (K : P (.inl (some (vI (factW w j x hr hu gr 1)))) g h) : Call (d + 3) 0 0 mX12_factOf [vR M, vI 1, vI n, vI ((j : Nat) : Int), vI x] g h P := by
  have hxl := hf.on (c := x.toNat) (by omega)
  refine Call_of rfl ⟨by decide +kernel, rfl⟩ (Nat.le_of_ble_eq_true rfl) rfl ?_
  refine iL1 dX12_factOf_0 ?_
  refine R_tsw (tt := 58) dX12_factOf_1 (by decide) (by decide) ?_
  refine aL0 dX12_factOf_58 ?_
  refine R_getI dX12_factOf_59 fX12_277.r hG.o ?_
  refine topV (v := hu) (hA.2.1) ?_
  exact R_iret dX12_factOf_62 rfl (K)
set_option maxHeartbeats 400000 in
theorem C_X12_factOf_2 {d : Nat} {g : Gs} {h : Hc} {P : Po} {M : Nat} {w : Nat → Int} (hG : MdG g M) (hW : h (M + 1) = w) (hf : WF w) {x n hr hu gr : Int} {j : Nat} (hj : j < 5) (hx1 : -1 ≤ x) (hx2 : x < 8) (hA : Ask M h hr hu gr) (K : P (.inl (some (vI (factW w j x hr hu gr 2)))) g h) : Call (d + 3) 0 0 mX12_factOf [vR M, vI 2, vI n, vI ((j : Nat) : Int), vI x] g h P := by
  have hxl := hf.on (c := x.toNat) (by omega)
  refine Call_of rfl ⟨by decide +kernel, rfl⟩ (Nat.le_of_ble_eq_true rfl) rfl ?_
  refine iL1 dX12_factOf_0 ?_
  refine R_tsw (tt := 63) dX12_factOf_1 (by decide) (by decide) ?_
  refine aL0 dX12_factOf_63 ?_
  refine iL3 dX12_factOf_64 ?_
  refine R_iconst_2 dX12_factOf_65 ?_
  refine invV2 rfl dX12_factOf_66 kX12_280 hG.o (Nat.le_of_ble_eq_true rfl) (Nat.zero_le _) (Nat.zero_le _) (C_X12_ofJudge hG hW (b := 2) (i := 82 + 4 * j) (by omega) (by omega) (konI ?_))
  have hq1 := hf.nv (j := j) (by omega)
  exact R_iret dX12_factOf_69 rfl (K)
set_option maxHeartbeats 400000 in
theorem C_X12_factOf_3 {d : Nat} {g : Gs} {h : Hc} {P : Po} {M : Nat} {w : Nat → Int} (hG : MdG g M) (hW : h (M + 1) = w) (hf : WF w) {x n hr hu gr : Int} {j : Nat} (hj : j < 5) (hx1 : -1 ≤ x) (hx2 : x < 8) (hA : Ask M h hr hu gr) (K : P (.inl (some (vI (factW w j x hr hu gr 3)))) g h) : Call (d + 3) 0 0 mX12_factOf [vR M, vI 3, vI n, vI ((j : Nat) : Int), vI x] g h P := by
  have hxl := hf.on (c := x.toNat) (by omega)
  refine Call_of rfl ⟨by decide +kernel, rfl⟩ (Nat.le_of_ble_eq_true rfl) rfl ?_
  refine iL1 dX12_factOf_0 ?_
  refine R_tsw (tt := 70) dX12_factOf_1 (by decide) (by decide) ?_
  refine iL4 dX12_factOf_70 ?_
  refine R_iconst_m1 dX12_factOf_72 ?_
  refine R_icmp_ne dX12_factOf_73 (fun hb73 => ?_) (fun hb73 => ?_)
  · refine aL0 dX12_factOf_81 ?_
    refine iL4 dX12_factOf_82 ?_
    refine topV (v := ((x.toNat : Nat) : Int)) (by omega) ?_
    refine R_iconst_0 dX12_factOf_84 ?_
    refine invV2 rfl dX12_factOf_85 kX12_87 hG.o (Nat.le_of_ble_eq_true rfl) (Nat.zero_le _) (Nat.zero_le _) (C_X12_of hG hW (b := 0) (i := 100 + 7 * x.toNat) (by omega) (by omega) (konI ?_))
    have hq1 := hf.ki (c := x.toNat) (by omega)
    exact R_iret dX12_factOf_88 rfl (PeqI K (by simp only [factW]; first | (rw [if_pos (by omega)]) | (rw [if_neg (by omega)])))
  · refine R_bipush dX12_factOf_76 (by decide) ?_
    refine R_goto dX12_factOf_78 ?_
    exact R_iret dX12_factOf_88 rfl (PeqI K (by simp only [factW]; first | (rw [if_pos (by omega)]) | (rw [if_neg (by omega)])))
set_option maxHeartbeats 400000 in
theorem C_X12_factOf_4 {d : Nat} {g : Gs} {h : Hc} {P : Po} {M : Nat} {w : Nat → Int} (hG : MdG g M) (hW : h (M + 1) = w) (hf : WF w) {x n hr hu gr : Int} {j : Nat} (hj : j < 5) (hx1 : -1 ≤ x) (hx2 : x < 8) (hA : Ask M h hr hu gr) (K : P (.inl (some (vI (factW w j x hr hu gr 4)))) g h) : Call (d + 3) 0 0 mX12_factOf [vR M, vI 4, vI n, vI ((j : Nat) : Int), vI x] g h P := by
  have hxl := hf.on (c := x.toNat) (by omega)
  refine Call_of rfl ⟨by decide +kernel, rfl⟩ (Nat.le_of_ble_eq_true rfl) rfl ?_
  refine iL1 dX12_factOf_0 ?_
  refine R_tsw (tt := 89) dX12_factOf_1 (by decide) (by decide) ?_
  refine iL4 dX12_factOf_89 ?_
  refine R_iconst_m1 dX12_factOf_91 ?_
  refine R_icmp_ne dX12_factOf_92 (fun hb92 => ?_) (fun hb92 => ?_)
  · refine aL0 dX12_factOf_99 ?_
    refine R_getI dX12_factOf_100 fX12_283.r hG.o ?_
    refine topV (v := gr) (hA.2.2) ?_
    exact R_iret dX12_factOf_103 rfl (PeqI K (by simp only [factW]; first | (rw [if_pos (by omega)]) | (rw [if_neg (by omega)])))
  · refine R_iconst_0 dX12_factOf_95 ?_
    refine R_goto dX12_factOf_96 ?_
    exact R_iret dX12_factOf_103 rfl (PeqI K (by simp only [factW]; first | (rw [if_pos (by omega)]) | (rw [if_neg (by omega)])))
set_option maxHeartbeats 400000 in
theorem C_X12_factOf_5 {d : Nat} {g : Gs} {h : Hc} {P : Po} {M : Nat} {w : Nat → Int} (hG : MdG g M) (hW : h (M + 1) = w) (hf : WF w) {x n hr hu gr : Int} {j : Nat} (hj : j < 5) (hx1 : -1 ≤ x) (hx2 : x < 8) (hA : Ask M h hr hu gr) (K : P (.inl (some (vI (factW w j x hr hu gr 5)))) g h) : Call (d + 3) 0 0 mX12_factOf [vR M, vI 5, vI n, vI ((j : Nat) : Int), vI x] g h P := by
  have hxl := hf.on (c := x.toNat) (by omega)
  refine Call_of rfl ⟨by decide +kernel, rfl⟩ (Nat.le_of_ble_eq_true rfl) rfl ?_
  refine iL1 dX12_factOf_0 ?_
  refine R_tsw (tt := 104) dX12_factOf_1 (by decide) (by decide) ?_
  refine iL4 dX12_factOf_104 ?_
  refine R_iconst_m1 dX12_factOf_106 ?_
  refine R_icmp_ne dX12_factOf_107 (fun hb107 => ?_) (fun hb107 => ?_)
  · refine aL0 dX12_factOf_114 ?_
    refine iL4 dX12_factOf_115 ?_
    refine topV (v := ((x.toNat : Nat) : Int)) (by omega) ?_
    refine R_iconst_2 dX12_factOf_117 ?_
    refine invV2 rfl dX12_factOf_118 kX12_87 hG.o (Nat.le_of_ble_eq_true rfl) (Nat.zero_le _) (Nat.zero_le _) (C_X12_of hG hW (b := 2) (i := 102 + 7 * x.toNat) (by omega) (by omega) (konI ?_))
    have hq1 := hf.wo (c := x.toNat) (by omega)
    exact R_iret dX12_factOf_121 rfl (PeqI K (by simp only [factW]; first | (rw [if_pos (by omega)]) | (rw [if_neg (by omega)])))
  · refine R_iconst_0 dX12_factOf_110 ?_
    refine R_goto dX12_factOf_111 ?_
    exact R_iret dX12_factOf_121 rfl (PeqI K (by simp only [factW]; first | (rw [if_pos (by omega)]) | (rw [if_neg (by omega)])))
set_option maxHeartbeats 400000 in
theorem C_X12_factOf_6 {d : Nat} {g : Gs} {h : Hc} {P : Po} {M : Nat} {w : Nat → Int} (hG : MdG g M) (hW : h (M + 1) = w) (hf : WF w) {x n hr hu gr : Int} {j : Nat} (hj : j < 5) (hx1 : -1 ≤ x) (hx2 : x < 8) (hA : Ask M h hr hu gr) (K : P (.inl (some (vI (factW w j x hr hu gr 6)))) g h) : Call (d + 3) 0 0 mX12_factOf [vR M, vI 6, vI n, vI ((j : Nat) : Int), vI x] g h P := by
  have hxl := hf.on (c := x.toNat) (by omega)
  refine Call_of rfl ⟨by decide +kernel, rfl⟩ (Nat.le_of_ble_eq_true rfl) rfl ?_
  refine iL1 dX12_factOf_0 ?_
  refine R_tsw (tt := 122) dX12_factOf_1 (by decide) (by decide) ?_
  refine aL0 dX12_factOf_122 ?_
  refine R_getI dX12_factOf_123 fX12_286.r hG.o ?_
  refine topV (v := hr) (hA.1) ?_
  exact R_iret dX12_factOf_126 rfl (K)
set_option maxHeartbeats 400000 in
theorem C_X12_factOf_7 {d : Nat} {g : Gs} {h : Hc} {P : Po} {M : Nat} {w : Nat → Int} (hG : MdG g M) (hW : h (M + 1) = w) (hf : WF w) {x n hr hu gr : Int} {j : Nat} (hj : j < 5) (hx1 : -1 ≤ x) (hx2 : x < 8) (hA : Ask M h hr hu gr) (K : P (.inl (some (vI (factW w j x hr hu gr 7)))) g h) : Call (d + 3) 0 0 mX12_factOf [vR M, vI 7, vI n, vI ((j : Nat) : Int), vI x] g h P := by
  have hxl := hf.on (c := x.toNat) (by omega)
  refine Call_of rfl ⟨by decide +kernel, rfl⟩ (Nat.le_of_ble_eq_true rfl) rfl ?_
  refine iL1 dX12_factOf_0 ?_
  refine R_tsw (tt := 127) dX12_factOf_1 (by decide) (by decide) ?_
  suffices J1 : Run (d + 3) 0 0 mX12_factOf 149 [vR M, vI 7, vI n, vI ((j : Nat) : Int), vI x] [vI (bI (leanB w x))] g h P by
    refine iL4 dX12_factOf_127 ?_
    refine R_iconst_m1 dX12_factOf_129 ?_
    refine R_icmp_eq dX12_factOf_130 (fun hb130 => ?_) (fun hb130 => ?_)
    · refine R_iconst_0 dX12_factOf_148 ?_
      exact topV (v := bI (leanB w x)) (by first | (rw [bI_t (by simp [leanB]; omega)]) | (rw [bI_f (by simp [leanB]; omega)])) J1
    · refine aL0 dX12_factOf_133 ?_
      refine iL4 dX12_factOf_134 ?_
      refine topV (v := ((x.toNat : Nat) : Int)) (by omega) ?_
      refine R_iconst_3 dX12_factOf_136 ?_
      refine invV2 rfl dX12_factOf_137 kX12_87 hG.o (Nat.le_of_ble_eq_true rfl) (Nat.zero_le _) (Nat.zero_le _) (C_X12_of hG hW (b := 3) (i := 103 + 7 * x.toNat) (by omega) (by omega) (konI ?_))
      have hq2 := hf.on (c := x.toNat) (by omega)
      refine R_iconst_m1 dX12_factOf_140 ?_
      refine R_icmp_eq dX12_factOf_141 (fun hb141 => ?_) (fun hb141 => ?_)
      · refine R_iconst_0 dX12_factOf_148 ?_
        exact topV (v := bI (leanB w x)) (by first | (rw [bI_t (by simp [leanB]; omega)]) | (rw [bI_f (by simp [leanB]; omega)])) J1
      · refine R_iconst_1 dX12_factOf_144 ?_
        refine R_goto dX12_factOf_145 ?_
        exact topV (v := bI (leanB w x)) (by first | (rw [bI_t (by simp [leanB]; omega)]) | (rw [bI_f (by simp [leanB]; omega)])) J1
  exact R_iret dX12_factOf_149 rfl (K)
set_option maxHeartbeats 400000 in
theorem C_X12_factOf_8 {d : Nat} {g : Gs} {h : Hc} {P : Po} {M : Nat} {w : Nat → Int} (hG : MdG g M) (hW : h (M + 1) = w) (hf : WF w) {x n hr hu gr : Int} {j : Nat} (hj : j < 5) (hx1 : -1 ≤ x) (hx2 : x < 8) (hA : Ask M h hr hu gr) (K : P (.inl (some (vI (factW w j x hr hu gr 8)))) g h) : Call (d + 3) 0 0 mX12_factOf [vR M, vI 8, vI n, vI ((j : Nat) : Int), vI x] g h P := by
  have hxl := hf.on (c := x.toNat) (by omega)
  refine Call_of rfl ⟨by decide +kernel, rfl⟩ (Nat.le_of_ble_eq_true rfl) rfl ?_
  refine iL1 dX12_factOf_0 ?_
  refine R_tsw (tt := 150) dX12_factOf_1 (by decide) (by decide) ?_
  refine aL0 dX12_factOf_150 ?_
  refine iL4 dX12_factOf_151 ?_
  refine invV1 rfl dX12_factOf_153 kX12_289 hG.o (Nat.le_of_ble_eq_true rfl) (Nat.zero_le _) (Nat.zero_le _) (C_X12_hasPrecedent hG hW hf (by omega) (by omega) (konI ?_))
  suffices J1 : Run (d + 3) 0 0 mX12_factOf 164 [vR M, vI 8, vI n, vI ((j : Nat) : Int), vI x] [vI (bI (precB w x))] g h P by
    refine R_ifB_eq dX12_factOf_156 (fun hb156 => ?_) (fun hb156 => ?_)
    · refine R_iconst_0 dX12_factOf_163 ?_
      exact topV (v := bI (precB w x)) (by first | (rw [bI_t (by first | assumption | (simp; omega))]) | (rw [bI_f (by first | assumption | (simp; omega))])) J1
    · refine R_iconst_1 dX12_factOf_159 ?_
      refine R_goto dX12_factOf_160 ?_
      exact topV (v := bI (precB w x)) (by first | (rw [bI_t (by first | assumption | (simp; omega))]) | (rw [bI_f (by first | assumption | (simp; omega))])) J1
  exact R_iret dX12_factOf_164 rfl (K)
set_option maxHeartbeats 400000 in
theorem C_X12_factOf_9 {d : Nat} {g : Gs} {h : Hc} {P : Po} {M : Nat} {w : Nat → Int} (hG : MdG g M) (hW : h (M + 1) = w) (hf : WF w) {x n hr hu gr : Int} {j : Nat} (hj : j < 5) (hx1 : -1 ≤ x) (hx2 : x < 8) (hA : Ask M h hr hu gr) (K : P (.inl (some (vI (factW w j x hr hu gr 9)))) g h) : Call (d + 3) 0 0 mX12_factOf [vR M, vI 9, vI n, vI ((j : Nat) : Int), vI x] g h P := by
  have hxl := hf.on (c := x.toNat) (by omega)
  refine Call_of rfl ⟨by decide +kernel, rfl⟩ (Nat.le_of_ble_eq_true rfl) rfl ?_
  refine iL1 dX12_factOf_0 ?_
  refine R_tsw (tt := 165) dX12_factOf_1 (by decide) (by decide) ?_
  suffices J1 : Run (d + 3) 0 0 mX12_factOf 179 [vR M, vI 9, vI n, vI ((j : Nat) : Int), vI x] [vI (bI (decide (6 ≤ hr)))] g h P by
    refine aL0 dX12_factOf_165 ?_
    refine R_getI dX12_factOf_166 fX12_286.r hG.o ?_
    refine topV (v := hr) (hA.1) ?_
    refine R_bipush dX12_factOf_169 (by decide) ?_
    refine R_icmp_lt dX12_factOf_171 (fun hb171 => ?_) (fun hb171 => ?_)
    · refine R_iconst_0 dX12_factOf_178 ?_
      exact topV (v := bI (decide (6 ≤ hr))) (by first | (rw [bI_t (by first | assumption | (simp; omega))]) | (rw [bI_f (by first | assumption | (simp; omega))])) J1
    · refine R_iconst_1 dX12_factOf_174 ?_
      refine R_goto dX12_factOf_175 ?_
      exact topV (v := bI (decide (6 ≤ hr))) (by first | (rw [bI_t (by first | assumption | (simp; omega))]) | (rw [bI_f (by first | assumption | (simp; omega))])) J1
  exact R_iret dX12_factOf_179 rfl (K)
set_option maxHeartbeats 400000 in
theorem C_X12_factOf_10 {d : Nat} {g : Gs} {h : Hc} {P : Po} {M : Nat} {w : Nat → Int} (hG : MdG g M) (hW : h (M + 1) = w) (hf : WF w) {x n hr hu gr : Int} {j : Nat} (hj : j < 5) (hx1 : -1 ≤ x) (hx2 : x < 8) (hA : Ask M h hr hu gr) (K : P (.inl (some (vI (n)))) g h) : Call (d + 3) 0 0 mX12_factOf [vR M, vI 10, vI n, vI ((j : Nat) : Int), vI x] g h P := by
  have hxl := hf.on (c := x.toNat) (by omega)
  refine Call_of rfl ⟨by decide +kernel, rfl⟩ (Nat.le_of_ble_eq_true rfl) rfl ?_
  refine iL1 dX12_factOf_0 ?_
  refine R_tsw (tt := 180) dX12_factOf_1 (by decide) (by decide) ?_
  refine iL2 dX12_factOf_180 ?_
  exact R_iret dX12_factOf_181 rfl (K)
theorem C_X12_factOf {d : Nat} {g : Gs} {h : Hc} {P : Po} {M : Nat} {w : Nat → Int} (hG : MdG g M) (hW : h (M + 1) = w) (hf : WF w) {x n hr hu gr c : Int} {j : Nat} (hj : j < 5) (hx1 : -1 ≤ x) (hx2 : x < 8) (hA : Ask M h hr hu gr) (hc : 0 ≤ c ∧ c ≤ 10) (K : P (.inl (some (vI (if c = 10 then n else factW w j x hr hu gr c.toNat)))) g h) : Call (d + 3) 0 0 mX12_factOf [vR M, vI c, vI n, vI ((j : Nat) : Int), vI x] g h P := by
  obtain ⟨k, rfl⟩ : ∃ k : Nat, c = (k : Int) := ⟨c.toNat, by omega⟩
  have hk : k < 11 := by omega
  match k, hk with
  | 0, _ => exact C_X12_factOf_0 hG hW hf hj hx1 hx2 hA K
  | 1, _ => exact C_X12_factOf_1 hG hW hf hj hx1 hx2 hA K
  | 2, _ => exact C_X12_factOf_2 hG hW hf hj hx1 hx2 hA K
  | 3, _ => exact C_X12_factOf_3 hG hW hf hj hx1 hx2 hA K
  | 4, _ => exact C_X12_factOf_4 hG hW hf hj hx1 hx2 hA K
  | 5, _ => exact C_X12_factOf_5 hG hW hf hj hx1 hx2 hA K
  | 6, _ => exact C_X12_factOf_6 hG hW hf hj hx1 hx2 hA K
  | 7, _ => exact C_X12_factOf_7 hG hW hf hj hx1 hx2 hA K
  | 8, _ => exact C_X12_factOf_8 hG hW hf hj hx1 hx2 hA K
  | 9, _ => exact C_X12_factOf_9 hG hW hf hj hx1 hx2 hA K
  | 10, _ => exact C_X12_factOf_10 hG hW hf hj hx1 hx2 hA K
set_option maxHeartbeats 2000000 in
theorem C_X12_holdsLine {d : Nat} {g : Gs} {h : Hc} {P : Po} {M : Nat} {w : Nat → Int} (hG : MdG g M) (hW : h (M + 1) = w) (hf : WF w) (hl : LawOK w) (h3 : w 3 = 1) {n j : Nat} {x hr hu gr : Int} (hn : (n : Int) < w 516) (hj : j < 5) (hx1 : -1 ≤ x) (hx2 : x < 8) (hA : Ask M h hr hu gr) (hok : okF (factW w j x hr hu gr)) (K : ∀ h', Off (fun q => q = M + 8) h h' → P (.inl (some (vI (bI (hold (factW w j x hr hu gr) w n))))) g h') : Call (d + 4) 0 0 mX12_holdsLine [vR M, vI ((n : Nat) : Int), vI ((j : Nat) : Int), vI x] g h P := by
  obtain ⟨hl1, -, -, hl2⟩ := hl h3
  obtain ⟨hl3, hl4, hl7, hl5, hl6⟩ := hl2 n hn
  obtain ⟨fin, hr9, hfin⟩ := hl5 _ hok
  refine Call_of rfl ⟨by decide +kernel, rfl⟩ (Nat.le_of_ble_eq_true rfl) rfl ?_
  have hO : Off (fun q => q = M + 8) h h := Off.rf _ _
  refine R_iconst_0 dX12_holdsLine_0 ?_
  refine iS4 dX12_holdsLine_1 ?_
  refine R_sipush dX12_holdsLine_3 (by decide) ?_
  refine R_iconst_4 dX12_holdsLine_6 ?_
  refine iL1 dX12_holdsLine_7 ?_
  refine mulV dX12_holdsLine_8 (v := (((4 * n) : Nat) : Int)) (by rw [wid (by omega) (by omega)]; omega) ?_
  refine addV dX12_holdsLine_9 (v := (((517 + (4 * n)) : Nat) : Int)) (by rw [wid (by omega) (by omega)]; omega) ?_
  refine iS5 dX12_holdsLine_10 ?_
  refine aL0 dX12_holdsLine_12 ?_
  refine R_getR dX12_holdsLine_13 fX12_13.r hG.o rfl ?_
  refine iL5 dX12_holdsLine_16 ?_
  refine R_iconst_2 dX12_holdsLine_18 ?_
  refine addV dX12_holdsLine_19 (v := ((((517 + (4 * n)) + 2) : Nat) : Int)) (by rw [wid (by omega) (by omega)]; omega) ?_
  refine ialdN dX12_holdsLine_20 hG.a1 rfl (by omega) ?_
  refine topV (v := w (519 + 4 * n)) (by rw [hO _ (by omega)]; exact (congrFun hW _).trans (congrArg w (by omega))) ?_
  refine topV (v := (((w (519 + 4 * n)).toNat : Nat) : Int)) (by omega) ?_
  refine iS6 dX12_holdsLine_21 ?_
  refine loopN (w (520 + 4 * n)).toNat (fun i => ∀ (hK : Hc) (s : List Int) (v7 v8 v9 v10 : AV), Off (fun q => q = M + 8) h hK → StkR (hK (M + 8)) s → s.length ≤ 32 → (w (519 + 4 * n)).toNat ≤ i → runL (factW w j x hr hu gr) w i ((w (520 + 4 * n)).toNat - i) s = some fin → Run (d + 4) 0 0 mX12_holdsLine 23 [vR M, vI ((n : Nat) : Int), vI ((j : Nat) : Int), vI x, vI ((s.length : Nat) : Int), vI (((517 + 4 * n) : Nat) : Int), vI ((i : Nat) : Int), v7, v8, v9, v10] [] g hK P) (fun i hib ih hK s v7 v8 v9 v10 hO hS hsl hai hrun => ?_) (w (519 + 4 * n)).toNat (by omega) h [] vU vU vU vU (Off.rf _ _) trivial (Nat.zero_le _) (Nat.le_refl _) hr9
  refine iL6 dX12_holdsLine_23 ?_
  refine aL0 dX12_holdsLine_25 ?_
  refine R_getR dX12_holdsLine_26 fX12_13.r hG.o rfl ?_
  refine iL5 dX12_holdsLine_29 ?_
  refine R_iconst_3 dX12_holdsLine_31 ?_
  refine addV dX12_holdsLine_32 (v := ((((517 + 4 * n) + 3) : Nat) : Int)) (by rw [wid (by omega) (by omega)]; omega) ?_
  refine ialdN dX12_holdsLine_33 hG.a1 rfl (by omega) ?_
  refine topV (v := w (520 + 4 * n)) (by rw [hO _ (by omega)]; exact (congrFun hW _).trans (congrArg w (by omega))) ?_
  refine R_icmp_ge dX12_holdsLine_34 (fun hb34 => ?_) (fun hb34 => ?_)
  · have hib2 : i = (w (520 + 4 * n)).toNat := by omega
    subst hib2
    rw [Nat.sub_self] at hrun
    have hsf : s = fin := Option.some.inj hrun
    refine iL4 dX12_holdsLine_271 ?_
    rcases hfin with q | q | q
    · refine R_if_eq dX12_holdsLine_273 (fun hb => ?_) (fun hb => ?_)
      · refine R_iconst_1 dX12_holdsLine_286 ?_
        refine R_goto dX12_holdsLine_287 ?_
        exact R_zret dX12_holdsLine_291 rfl (by decide) (PeqI (K _ hO) (by rw [hold_of hr9, q]; decide))
      · exfalso; rw [hsf, q] at hb; exact hb rfl
    · refine R_if_eq dX12_holdsLine_273 (fun hb => ?_) (fun hb => ?_)
      · exfalso; rw [hsf, q] at hb; exact absurd hb (by decide)
      · refine aL0 dX12_holdsLine_276 ?_
        refine R_getR dX12_holdsLine_277 fX12_39.r hG.o rfl ?_
        refine R_iconst_0 dX12_holdsLine_280 ?_
        refine ialdN (k := 0) dX12_holdsLine_281 hG.a8 rfl (by decide) ?_
        rw [hsf, q] at hS
        refine topV (v := 0) hS.1 ?_
        refine R_iconst_1 dX12_holdsLine_282 ?_
        refine R_icmp_ne dX12_holdsLine_283 (fun hb2 => ?_) (fun hb2 => ?_)
        · refine R_iconst_0 dX12_holdsLine_290 ?_
          exact R_zret dX12_holdsLine_291 rfl (by decide) (PeqI (K _ hO) (by rw [hold_of hr9, q]; decide))
        · exact absurd hb2 (by decide)
    · refine R_if_eq dX12_holdsLine_273 (fun hb => ?_) (fun hb => ?_)
      · exfalso; rw [hsf, q] at hb; exact absurd hb (by decide)
      · refine aL0 dX12_holdsLine_276 ?_
        refine R_getR dX12_holdsLine_277 fX12_39.r hG.o rfl ?_
        refine R_iconst_0 dX12_holdsLine_280 ?_
        refine ialdN (k := 0) dX12_holdsLine_281 hG.a8 rfl (by decide) ?_
        rw [hsf, q] at hS
        refine topV (v := 1) hS.1 ?_
        refine R_iconst_1 dX12_holdsLine_282 ?_
        refine R_icmp_ne dX12_holdsLine_283 (fun hb2 => ?_) (fun hb2 => ?_)
        · exact absurd rfl hb2
        · refine R_iconst_1 dX12_holdsLine_286 ?_
          refine R_goto dX12_holdsLine_287 ?_
          exact R_zret dX12_holdsLine_291 rfl (by decide) (PeqI (K _ hO) (by rw [hold_of hr9, q]; decide))
  · rw [show (w (520 + 4 * n)).toNat - i = ((w (520 + 4 * n)).toNat - (i + 1)) + 1 by omega] at hrun
    obtain ⟨s2, q1, q2⟩ := runL_s hrun
    obtain ⟨hc2, hc3⟩ := hl6 i (by omega)
    refine aL0 dX12_holdsLine_37 ?_
    refine R_getR dX12_holdsLine_38 fX12_13.r hG.o rfl ?_
    refine R_sipush dX12_holdsLine_41 (by decide) ?_
    refine R_iconst_2 dX12_holdsLine_44 ?_
    refine iL6 dX12_holdsLine_45 ?_
    refine mulV dX12_holdsLine_47 (v := (((2 * i) : Nat) : Int)) (by rw [wid (by omega) (by omega)]; omega) ?_
    refine addV dX12_holdsLine_48 (v := (((565 + (2 * i)) : Nat) : Int)) (by rw [wid (by omega) (by omega)]; omega) ?_
    refine ialdN dX12_holdsLine_49 hG.a1 rfl (by omega) ?_
    refine topV (v := w (565 + 2 * i)) (by rw [hO _ (by omega)]; exact (congrFun hW _).trans (congrArg w (by omega))) ?_
    refine iS7 dX12_holdsLine_50 ?_
    rcases stepL_c q1 with ⟨c1, c2, c3⟩ | ⟨c1, b1, t1, c2, c3, c4⟩ | ⟨a1, b1, t1, c2, c3⟩
    · refine iL7 dX12_holdsLine_52 ?_
      refine R_bipush dX12_holdsLine_54 (by decide) ?_
      refine R_icmp_gt dX12_holdsLine_56 (fun hb56 => ?_) (fun hb56 => ?_)
      · exfalso; omega
      · refine aL0 dX12_holdsLine_59 ?_
        refine R_getR dX12_holdsLine_60 fX12_39.r hG.o rfl ?_
        refine iL4 dX12_holdsLine_63 ?_
        refine aL0 dX12_holdsLine_65 ?_
        refine iL7 dX12_holdsLine_66 ?_
        refine aL0 dX12_holdsLine_68 ?_
        refine R_getR dX12_holdsLine_69 fX12_13.r hG.o rfl ?_
        refine R_sipush dX12_holdsLine_72 (by decide) ?_
        refine R_iconst_2 dX12_holdsLine_75 ?_
        refine iL6 dX12_holdsLine_76 ?_
        refine mulV dX12_holdsLine_78 (v := (((2 * i) : Nat) : Int)) (by rw [wid (by omega) (by omega)]; omega) ?_
        refine addV dX12_holdsLine_79 (v := (((565 + (2 * i)) : Nat) : Int)) (by rw [wid (by omega) (by omega)]; omega) ?_
        refine R_iconst_1 dX12_holdsLine_80 ?_
        refine addV dX12_holdsLine_81 (v := ((((565 + (2 * i)) + 1) : Nat) : Int)) (by rw [wid (by omega) (by omega)]; omega) ?_
        refine ialdN dX12_holdsLine_82 hG.a1 rfl (by omega) ?_
        refine topV (v := w (566 + 2 * i)) (by rw [hO _ (by omega)]; exact (congrFun hW _).trans (congrArg w (by omega))) ?_
        refine iL2 dX12_holdsLine_83 ?_
        refine iL3 dX12_holdsLine_84 ?_
        refine invV4 rfl dX12_holdsLine_85 kX12_292 hG.o (Nat.le_of_ble_eq_true rfl) (Nat.zero_le _) (Nat.zero_le _) (C_X12_factOf hG (by rw [hO _ (by omega)]; exact hW) hf hj hx1 hx2 (hA.off hO) ⟨hc2.1, c1⟩ (konI ?_))
        refine iastN dX12_holdsLine_88 hG.a8 rfl (by omega) ?_
        refine iInc4 dX12_holdsLine_89 (winc (by omega)) ?_
        refine R_goto dX12_holdsLine_92 ?_
        refine iInc6 dX12_holdsLine_265 (winc (by omega)) ?_
        refine R_goto dX12_holdsLine_268 ?_
        refine eqI4 (v := ((s2.length : Nat) : Int)) (by have q9 := congrArg List.length c3; simp only [List.length_cons] at q9; omega) ?_
        exact ih (by omega) _ s2 _ _ _ _ (hO.upd rfl) (StkR_H (by rw [c3]; exact StkR_push hS)) (by rw [c3]; simp; omega) (by omega) q2
    · have hlen : s.length = t1.length + 1 := by rw [c2]; rfl
      rw [c2] at hS
      refine eqI7 (v := 14) (c1) ?_
      refine iL7 dX12_holdsLine_52 ?_
      refine R_bipush dX12_holdsLine_54 (by decide) ?_
      refine R_icmp_gt dX12_holdsLine_56 (fun hb56 => ?_) (fun hb56 => ?_)
      · refine iL7 dX12_holdsLine_95 ?_
        refine R_bipush dX12_holdsLine_97 (by decide) ?_
        refine R_icmp_ne dX12_holdsLine_99 (fun hb99 => ?_) (fun hb99 => ?_)
        · exact absurd rfl hb99
        · refine aL0 dX12_holdsLine_102 ?_
          refine R_getR dX12_holdsLine_103 fX12_39.r hG.o rfl ?_
          refine iL4 dX12_holdsLine_106 ?_
          refine R_iconst_1 dX12_holdsLine_108 ?_
          refine subV dX12_holdsLine_109 (wid (by omega) (by omega)) ?_
          refine topV (v := ((t1.length : Nat) : Int)) (by omega) ?_
          refine R_iconst_1 dX12_holdsLine_110 ?_
          refine aL0 dX12_holdsLine_111 ?_
          refine R_getR dX12_holdsLine_112 fX12_39.r hG.o rfl ?_
          refine iL4 dX12_holdsLine_115 ?_
          refine R_iconst_1 dX12_holdsLine_117 ?_
          refine subV dX12_holdsLine_118 (wid (by omega) (by omega)) ?_
          refine topV (v := ((t1.length : Nat) : Int)) (by omega) ?_
          refine ialdN dX12_holdsLine_119 hG.a8 rfl (by omega) ?_
          refine topV (v := b1) (hS.1) ?_
          refine subV dX12_holdsLine_120 (wid (by omega) (by omega)) ?_
          refine iastN dX12_holdsLine_121 hG.a8 rfl (by omega) ?_
          refine R_goto dX12_holdsLine_122 ?_
          refine iInc6 dX12_holdsLine_265 (winc (by omega)) ?_
          refine R_goto dX12_holdsLine_268 ?_
          refine eqI4 (v := ((s2.length : Nat) : Int)) (by have q9 := congrArg List.length c4; simp only [List.length_cons] at q9; omega) ?_
          exact ih (by omega) _ s2 _ _ _ _ (hO.upd rfl) (StkR_H (by rw [c4]; exact StkR_push hS.2)) (by rw [c4]; simp; omega) (by omega) q2
      · exact absurd hb56 (by decide)
    · have hlen : s.length = t1.length + 2 := by rw [c2]; rfl
      rw [c2] at hS
      rcases c3 with ⟨c3, c5, c6⟩ | ⟨c3, c6⟩ | ⟨c3, c6⟩ | ⟨c3, c5, c6⟩ | ⟨c3, c5, c6⟩
      · refine eqI7 (v := 11) (c3) ?_
        refine iL7 dX12_holdsLine_52 ?_
        refine R_bipush dX12_holdsLine_54 (by decide) ?_
        refine R_icmp_gt dX12_holdsLine_56 (fun hb56 => ?_) (fun hb56 => ?_)
        · refine iL7 dX12_holdsLine_95 ?_
          refine R_bipush dX12_holdsLine_97 (by decide) ?_
          refine R_icmp_ne dX12_holdsLine_99 (fun hb99 => ?_) (fun hb99 => ?_)
          · refine iInc4 dX12_holdsLine_125 (wid (by omega) (by omega)) ?_
            refine eqI4 (v := (((t1.length + 1) : Nat) : Int)) (by omega) ?_
            refine aL0 dX12_holdsLine_128 ?_
            refine R_getR dX12_holdsLine_129 fX12_39.r hG.o rfl ?_
            refine iL4 dX12_holdsLine_132 ?_
            refine R_iconst_1 dX12_holdsLine_134 ?_
            refine subV dX12_holdsLine_135 (wid (by omega) (by omega)) ?_
            refine topV (v := ((t1.length : Nat) : Int)) (by omega) ?_
            refine ialdN dX12_holdsLine_136 hG.a8 rfl (by omega) ?_
            refine topV (v := a1) (hS.2.1) ?_
            refine iS8 dX12_holdsLine_137 ?_
            refine aL0 dX12_holdsLine_139 ?_
            refine R_getR dX12_holdsLine_140 fX12_39.r hG.o rfl ?_
            refine iL4 dX12_holdsLine_143 ?_
            refine ialdN dX12_holdsLine_145 hG.a8 rfl (by omega) ?_
            refine topV (v := b1) (hS.1) ?_
            refine iS9 dX12_holdsLine_146 ?_
            suffices J1 : Run (d + 4) 0 0 mX12_holdsLine 229 [vR M, vI ((n : Nat) : Int), vI ((j : Nat) : Int), vI x, vI (((t1.length + 1) : Nat) : Int), vI (((517 + 4 * n) : Nat) : Int), vI ((i : Nat) : Int), vI 11, vI a1, vI b1, v10] [vI (bI (decide (0 < a1 + b1)))] g hK P by
              refine iL7 dX12_holdsLine_148 ?_
              refine R_bipush dX12_holdsLine_150 (by decide) ?_
              refine R_icmp_ne dX12_holdsLine_152 (fun hb152 => ?_) (fun hb152 => ?_)
              · refine iL7 dX12_holdsLine_170 ?_
                refine R_bipush dX12_holdsLine_172 (by decide) ?_
                refine R_icmp_ne dX12_holdsLine_174 (fun hb174 => ?_) (fun hb174 => ?_)
                · refine iL7 dX12_holdsLine_192 ?_
                  refine R_bipush dX12_holdsLine_194 (by decide) ?_
                  refine R_icmp_ne dX12_holdsLine_196 (fun hb196 => ?_) (fun hb196 => ?_)
                  · refine iL8 dX12_holdsLine_216 ?_
                    refine iL9 dX12_holdsLine_218 ?_
                    refine addV dX12_holdsLine_220 (wid (by omega) (by omega)) ?_
                    refine R_if_le dX12_holdsLine_221 (fun hb221 => ?_) (fun hb221 => ?_)
                    · refine R_iconst_0 dX12_holdsLine_228 ?_
                      exact topV (v := bI (decide (0 < a1 + b1))) (by first | (rw [bI_t (by first | assumption | (simp; omega))]) | (rw [bI_f (by first | assumption | (simp; omega))])) J1
                    · refine R_iconst_1 dX12_holdsLine_224 ?_
                      refine R_goto dX12_holdsLine_225 ?_
                      exact topV (v := bI (decide (0 < a1 + b1))) (by first | (rw [bI_t (by first | assumption | (simp; omega))]) | (rw [bI_f (by first | assumption | (simp; omega))])) J1
                  · exact absurd hb196 (by decide)
                · exact absurd hb174 (by decide)
              · exact absurd hb152 (by decide)
            refine iS10 dX12_holdsLine_229 ?_
            refine aL0 dX12_holdsLine_231 ?_
            refine R_getR dX12_holdsLine_232 fX12_39.r hG.o rfl ?_
            refine iL4 dX12_holdsLine_235 ?_
            refine R_iconst_1 dX12_holdsLine_237 ?_
            refine subV dX12_holdsLine_238 (wid (by omega) (by omega)) ?_
            refine topV (v := ((t1.length : Nat) : Int)) (by omega) ?_
            refine iL7 dX12_holdsLine_239 ?_
            refine R_bipush dX12_holdsLine_241 (by decide) ?_
            refine R_icmp_ne dX12_holdsLine_243 (fun hb243 => ?_) (fun hb243 => ?_)
            · exact absurd rfl hb243
            · refine iL8 dX12_holdsLine_246 ?_
              refine iL9 dX12_holdsLine_248 ?_
              refine addV dX12_holdsLine_250 (wid (by omega) (by omega)) ?_
              refine R_goto dX12_holdsLine_251 ?_
              refine iastN dX12_holdsLine_264 hG.a8 rfl (by omega) ?_
              refine iInc6 dX12_holdsLine_265 (winc (by omega)) ?_
              refine R_goto dX12_holdsLine_268 ?_
              refine eqI4 (v := ((s2.length : Nat) : Int)) (by have q9 := congrArg List.length c6; simp only [List.length_cons] at q9; omega) ?_
              exact ih (by omega) _ s2 _ _ _ _ (hO.upd rfl) (StkR_H (by rw [c6]; exact StkR_push hS.2.2)) (by rw [c6]; simp; omega) (by omega) q2
          · exact absurd hb99 (by decide)
        · exact absurd hb56 (by decide)
      · refine eqI7 (v := 12) (c3) ?_
        refine iL7 dX12_holdsLine_52 ?_
        refine R_bipush dX12_holdsLine_54 (by decide) ?_
        refine R_icmp_gt dX12_holdsLine_56 (fun hb56 => ?_) (fun hb56 => ?_)
        · refine iL7 dX12_holdsLine_95 ?_
          refine R_bipush dX12_holdsLine_97 (by decide) ?_
          refine R_icmp_ne dX12_holdsLine_99 (fun hb99 => ?_) (fun hb99 => ?_)
          · refine iInc4 dX12_holdsLine_125 (wid (by omega) (by omega)) ?_
            refine eqI4 (v := (((t1.length + 1) : Nat) : Int)) (by omega) ?_
            refine aL0 dX12_holdsLine_128 ?_
            refine R_getR dX12_holdsLine_129 fX12_39.r hG.o rfl ?_
            refine iL4 dX12_holdsLine_132 ?_
            refine R_iconst_1 dX12_holdsLine_134 ?_
            refine subV dX12_holdsLine_135 (wid (by omega) (by omega)) ?_
            refine topV (v := ((t1.length : Nat) : Int)) (by omega) ?_
            refine ialdN dX12_holdsLine_136 hG.a8 rfl (by omega) ?_
            refine topV (v := a1) (hS.2.1) ?_
            refine iS8 dX12_holdsLine_137 ?_
            refine aL0 dX12_holdsLine_139 ?_
            refine R_getR dX12_holdsLine_140 fX12_39.r hG.o rfl ?_
            refine iL4 dX12_holdsLine_143 ?_
            refine ialdN dX12_holdsLine_145 hG.a8 rfl (by omega) ?_
            refine topV (v := b1) (hS.1) ?_
            refine iS9 dX12_holdsLine_146 ?_
            suffices J2 : Run (d + 4) 0 0 mX12_holdsLine 229 [vR M, vI ((n : Nat) : Int), vI ((j : Nat) : Int), vI x, vI (((t1.length + 1) : Nat) : Int), vI (((517 + 4 * n) : Nat) : Int), vI ((i : Nat) : Int), vI 12, vI a1, vI b1, v10] [vI (bI (decide (a1 < b1)))] g hK P by
              refine iL7 dX12_holdsLine_148 ?_
              refine R_bipush dX12_holdsLine_150 (by decide) ?_
              refine R_icmp_ne dX12_holdsLine_152 (fun hb152 => ?_) (fun hb152 => ?_)
              · exact absurd rfl hb152
              · refine iL8 dX12_holdsLine_155 ?_
                refine iL9 dX12_holdsLine_157 ?_
                refine R_icmp_ge dX12_holdsLine_159 (fun hb159 => ?_) (fun hb159 => ?_)
                · refine R_iconst_0 dX12_holdsLine_166 ?_
                  refine R_goto dX12_holdsLine_167 ?_
                  exact topV (v := bI (decide (a1 < b1))) (by first | (rw [bI_t (by first | assumption | (simp; omega))]) | (rw [bI_f (by first | assumption | (simp; omega))])) J2
                · refine R_iconst_1 dX12_holdsLine_162 ?_
                  refine R_goto dX12_holdsLine_163 ?_
                  exact topV (v := bI (decide (a1 < b1))) (by first | (rw [bI_t (by first | assumption | (simp; omega))]) | (rw [bI_f (by first | assumption | (simp; omega))])) J2
            refine iS10 dX12_holdsLine_229 ?_
            refine aL0 dX12_holdsLine_231 ?_
            refine R_getR dX12_holdsLine_232 fX12_39.r hG.o rfl ?_
            refine iL4 dX12_holdsLine_235 ?_
            refine R_iconst_1 dX12_holdsLine_237 ?_
            refine subV dX12_holdsLine_238 (wid (by omega) (by omega)) ?_
            refine topV (v := ((t1.length : Nat) : Int)) (by omega) ?_
            refine iL7 dX12_holdsLine_239 ?_
            refine R_bipush dX12_holdsLine_241 (by decide) ?_
            refine R_icmp_ne dX12_holdsLine_243 (fun hb243 => ?_) (fun hb243 => ?_)
            · suffices J3 : Run (d + 4) 0 0 mX12_holdsLine 264 [vR M, vI ((n : Nat) : Int), vI ((j : Nat) : Int), vI x, vI (((t1.length + 1) : Nat) : Int), vI (((517 + 4 * n) : Nat) : Int), vI ((i : Nat) : Int), vI 12, vI a1, vI b1, vI (bI (decide (a1 < b1)))] [vI ((if a1 < b1 then 1 else 0)), vI ((t1.length : Nat) : Int), vR (M + 8)] g hK P by
                refine iL10 dX12_holdsLine_254 ?_
                refine R_ifB_eq dX12_holdsLine_256 (fun hb256 => ?_) (fun hb256 => ?_)
                · refine R_iconst_0 dX12_holdsLine_263 ?_
                  exact topV (v := (if a1 < b1 then 1 else 0)) (by simp at hb256; first | (rw [if_pos (by omega)]) | (rw [if_neg (by omega)])) J3
                · refine R_iconst_1 dX12_holdsLine_259 ?_
                  refine R_goto dX12_holdsLine_260 ?_
                  exact topV (v := (if a1 < b1 then 1 else 0)) (by simp at hb256; first | (rw [if_pos (by omega)]) | (rw [if_neg (by omega)])) J3
              refine iastN dX12_holdsLine_264 hG.a8 rfl (by omega) ?_
              refine iInc6 dX12_holdsLine_265 (winc (by omega)) ?_
              refine R_goto dX12_holdsLine_268 ?_
              refine eqI4 (v := ((s2.length : Nat) : Int)) (by have q9 := congrArg List.length c6; simp only [List.length_cons] at q9; omega) ?_
              exact ih (by omega) _ s2 _ _ _ _ (hO.upd rfl) (StkR_H (by rw [c6]; exact StkR_push hS.2.2)) (by rw [c6]; simp; omega) (by omega) q2
            · exact absurd hb243 (by decide)
          · exact absurd hb99 (by decide)
        · exact absurd hb56 (by decide)
      · refine eqI7 (v := 13) (c3) ?_
        refine iL7 dX12_holdsLine_52 ?_
        refine R_bipush dX12_holdsLine_54 (by decide) ?_
        refine R_icmp_gt dX12_holdsLine_56 (fun hb56 => ?_) (fun hb56 => ?_)
        · refine iL7 dX12_holdsLine_95 ?_
          refine R_bipush dX12_holdsLine_97 (by decide) ?_
          refine R_icmp_ne dX12_holdsLine_99 (fun hb99 => ?_) (fun hb99 => ?_)
          · refine iInc4 dX12_holdsLine_125 (wid (by omega) (by omega)) ?_
            refine eqI4 (v := (((t1.length + 1) : Nat) : Int)) (by omega) ?_
            refine aL0 dX12_holdsLine_128 ?_
            refine R_getR dX12_holdsLine_129 fX12_39.r hG.o rfl ?_
            refine iL4 dX12_holdsLine_132 ?_
            refine R_iconst_1 dX12_holdsLine_134 ?_
            refine subV dX12_holdsLine_135 (wid (by omega) (by omega)) ?_
            refine topV (v := ((t1.length : Nat) : Int)) (by omega) ?_
            refine ialdN dX12_holdsLine_136 hG.a8 rfl (by omega) ?_
            refine topV (v := a1) (hS.2.1) ?_
            refine iS8 dX12_holdsLine_137 ?_
            refine aL0 dX12_holdsLine_139 ?_
            refine R_getR dX12_holdsLine_140 fX12_39.r hG.o rfl ?_
            refine iL4 dX12_holdsLine_143 ?_
            refine ialdN dX12_holdsLine_145 hG.a8 rfl (by omega) ?_
            refine topV (v := b1) (hS.1) ?_
            refine iS9 dX12_holdsLine_146 ?_
            suffices J4 : Run (d + 4) 0 0 mX12_holdsLine 229 [vR M, vI ((n : Nat) : Int), vI ((j : Nat) : Int), vI x, vI (((t1.length + 1) : Nat) : Int), vI (((517 + 4 * n) : Nat) : Int), vI ((i : Nat) : Int), vI 13, vI a1, vI b1, v10] [vI (bI (decide (b1 < a1)))] g hK P by
              refine iL7 dX12_holdsLine_148 ?_
              refine R_bipush dX12_holdsLine_150 (by decide) ?_
              refine R_icmp_ne dX12_holdsLine_152 (fun hb152 => ?_) (fun hb152 => ?_)
              · refine iL7 dX12_holdsLine_170 ?_
                refine R_bipush dX12_holdsLine_172 (by decide) ?_
                refine R_icmp_ne dX12_holdsLine_174 (fun hb174 => ?_) (fun hb174 => ?_)
                · exact absurd rfl hb174
                · refine iL8 dX12_holdsLine_177 ?_
                  refine iL9 dX12_holdsLine_179 ?_
                  refine R_icmp_le dX12_holdsLine_181 (fun hb181 => ?_) (fun hb181 => ?_)
                  · refine R_iconst_0 dX12_holdsLine_188 ?_
                    refine R_goto dX12_holdsLine_189 ?_
                    exact topV (v := bI (decide (b1 < a1))) (by first | (rw [bI_t (by first | assumption | (simp; omega))]) | (rw [bI_f (by first | assumption | (simp; omega))])) J4
                  · refine R_iconst_1 dX12_holdsLine_184 ?_
                    refine R_goto dX12_holdsLine_185 ?_
                    exact topV (v := bI (decide (b1 < a1))) (by first | (rw [bI_t (by first | assumption | (simp; omega))]) | (rw [bI_f (by first | assumption | (simp; omega))])) J4
              · exact absurd hb152 (by decide)
            refine iS10 dX12_holdsLine_229 ?_
            refine aL0 dX12_holdsLine_231 ?_
            refine R_getR dX12_holdsLine_232 fX12_39.r hG.o rfl ?_
            refine iL4 dX12_holdsLine_235 ?_
            refine R_iconst_1 dX12_holdsLine_237 ?_
            refine subV dX12_holdsLine_238 (wid (by omega) (by omega)) ?_
            refine topV (v := ((t1.length : Nat) : Int)) (by omega) ?_
            refine iL7 dX12_holdsLine_239 ?_
            refine R_bipush dX12_holdsLine_241 (by decide) ?_
            refine R_icmp_ne dX12_holdsLine_243 (fun hb243 => ?_) (fun hb243 => ?_)
            · suffices J5 : Run (d + 4) 0 0 mX12_holdsLine 264 [vR M, vI ((n : Nat) : Int), vI ((j : Nat) : Int), vI x, vI (((t1.length + 1) : Nat) : Int), vI (((517 + 4 * n) : Nat) : Int), vI ((i : Nat) : Int), vI 13, vI a1, vI b1, vI (bI (decide (b1 < a1)))] [vI ((if b1 < a1 then 1 else 0)), vI ((t1.length : Nat) : Int), vR (M + 8)] g hK P by
                refine iL10 dX12_holdsLine_254 ?_
                refine R_ifB_eq dX12_holdsLine_256 (fun hb256 => ?_) (fun hb256 => ?_)
                · refine R_iconst_0 dX12_holdsLine_263 ?_
                  exact topV (v := (if b1 < a1 then 1 else 0)) (by simp at hb256; first | (rw [if_pos (by omega)]) | (rw [if_neg (by omega)])) J5
                · refine R_iconst_1 dX12_holdsLine_259 ?_
                  refine R_goto dX12_holdsLine_260 ?_
                  exact topV (v := (if b1 < a1 then 1 else 0)) (by simp at hb256; first | (rw [if_pos (by omega)]) | (rw [if_neg (by omega)])) J5
              refine iastN dX12_holdsLine_264 hG.a8 rfl (by omega) ?_
              refine iInc6 dX12_holdsLine_265 (winc (by omega)) ?_
              refine R_goto dX12_holdsLine_268 ?_
              refine eqI4 (v := ((s2.length : Nat) : Int)) (by have q9 := congrArg List.length c6; simp only [List.length_cons] at q9; omega) ?_
              exact ih (by omega) _ s2 _ _ _ _ (hO.upd rfl) (StkR_H (by rw [c6]; exact StkR_push hS.2.2)) (by rw [c6]; simp; omega) (by omega) q2
            · exact absurd hb243 (by decide)
          · exact absurd hb99 (by decide)
        · exact absurd hb56 (by decide)
      · refine eqI7 (v := 15) (c3) ?_
        refine iL7 dX12_holdsLine_52 ?_
        refine R_bipush dX12_holdsLine_54 (by decide) ?_
        refine R_icmp_gt dX12_holdsLine_56 (fun hb56 => ?_) (fun hb56 => ?_)
        · refine iL7 dX12_holdsLine_95 ?_
          refine R_bipush dX12_holdsLine_97 (by decide) ?_
          refine R_icmp_ne dX12_holdsLine_99 (fun hb99 => ?_) (fun hb99 => ?_)
          · refine iInc4 dX12_holdsLine_125 (wid (by omega) (by omega)) ?_
            refine eqI4 (v := (((t1.length + 1) : Nat) : Int)) (by omega) ?_
            refine aL0 dX12_holdsLine_128 ?_
            refine R_getR dX12_holdsLine_129 fX12_39.r hG.o rfl ?_
            refine iL4 dX12_holdsLine_132 ?_
            refine R_iconst_1 dX12_holdsLine_134 ?_
            refine subV dX12_holdsLine_135 (wid (by omega) (by omega)) ?_
            refine topV (v := ((t1.length : Nat) : Int)) (by omega) ?_
            refine ialdN dX12_holdsLine_136 hG.a8 rfl (by omega) ?_
            refine topV (v := a1) (hS.2.1) ?_
            refine iS8 dX12_holdsLine_137 ?_
            refine aL0 dX12_holdsLine_139 ?_
            refine R_getR dX12_holdsLine_140 fX12_39.r hG.o rfl ?_
            refine iL4 dX12_holdsLine_143 ?_
            refine ialdN dX12_holdsLine_145 hG.a8 rfl (by omega) ?_
            refine topV (v := b1) (hS.1) ?_
            refine iS9 dX12_holdsLine_146 ?_
            suffices J6 : Run (d + 4) 0 0 mX12_holdsLine 229 [vR M, vI ((n : Nat) : Int), vI ((j : Nat) : Int), vI x, vI (((t1.length + 1) : Nat) : Int), vI (((517 + 4 * n) : Nat) : Int), vI ((i : Nat) : Int), vI 15, vI a1, vI b1, v10] [vI (bI (decide (a1 = 1 ∧ b1 = 1)))] g hK P by
              refine iL7 dX12_holdsLine_148 ?_
              refine R_bipush dX12_holdsLine_150 (by decide) ?_
              refine R_icmp_ne dX12_holdsLine_152 (fun hb152 => ?_) (fun hb152 => ?_)
              · refine iL7 dX12_holdsLine_170 ?_
                refine R_bipush dX12_holdsLine_172 (by decide) ?_
                refine R_icmp_ne dX12_holdsLine_174 (fun hb174 => ?_) (fun hb174 => ?_)
                · refine iL7 dX12_holdsLine_192 ?_
                  refine R_bipush dX12_holdsLine_194 (by decide) ?_
                  refine R_icmp_ne dX12_holdsLine_196 (fun hb196 => ?_) (fun hb196 => ?_)
                  · exact absurd rfl hb196
                  · refine iL8 dX12_holdsLine_199 ?_
                    refine iL9 dX12_holdsLine_201 ?_
                    refine addV dX12_holdsLine_203 (wid (by omega) (by omega)) ?_
                    refine R_iconst_2 dX12_holdsLine_204 ?_
                    refine R_icmp_ne dX12_holdsLine_205 (fun hb205 => ?_) (fun hb205 => ?_)
                    · refine R_iconst_0 dX12_holdsLine_212 ?_
                      refine R_goto dX12_holdsLine_213 ?_
                      exact topV (v := bI (decide (a1 = 1 ∧ b1 = 1))) (by first | (rw [bI_t (by simp; omega)]) | (rw [bI_f (by simp; omega)])) J6
                    · refine R_iconst_1 dX12_holdsLine_208 ?_
                      refine R_goto dX12_holdsLine_209 ?_
                      exact topV (v := bI (decide (a1 = 1 ∧ b1 = 1))) (by first | (rw [bI_t (by simp; omega)]) | (rw [bI_f (by simp; omega)])) J6
                · exact absurd hb174 (by decide)
              · exact absurd hb152 (by decide)
            refine iS10 dX12_holdsLine_229 ?_
            refine aL0 dX12_holdsLine_231 ?_
            refine R_getR dX12_holdsLine_232 fX12_39.r hG.o rfl ?_
            refine iL4 dX12_holdsLine_235 ?_
            refine R_iconst_1 dX12_holdsLine_237 ?_
            refine subV dX12_holdsLine_238 (wid (by omega) (by omega)) ?_
            refine topV (v := ((t1.length : Nat) : Int)) (by omega) ?_
            refine iL7 dX12_holdsLine_239 ?_
            refine R_bipush dX12_holdsLine_241 (by decide) ?_
            refine R_icmp_ne dX12_holdsLine_243 (fun hb243 => ?_) (fun hb243 => ?_)
            · suffices J7 : Run (d + 4) 0 0 mX12_holdsLine 264 [vR M, vI ((n : Nat) : Int), vI ((j : Nat) : Int), vI x, vI (((t1.length + 1) : Nat) : Int), vI (((517 + 4 * n) : Nat) : Int), vI ((i : Nat) : Int), vI 15, vI a1, vI b1, vI (bI (decide (a1 = 1 ∧ b1 = 1)))] [vI ((if a1 = 1 ∧ b1 = 1 then 1 else 0)), vI ((t1.length : Nat) : Int), vR (M + 8)] g hK P by
                refine iL10 dX12_holdsLine_254 ?_
                refine R_ifB_eq dX12_holdsLine_256 (fun hb256 => ?_) (fun hb256 => ?_)
                · refine R_iconst_0 dX12_holdsLine_263 ?_
                  exact topV (v := (if a1 = 1 ∧ b1 = 1 then 1 else 0)) (by simp at hb256; first | (rw [if_pos (by omega)]) | (rw [if_neg (by omega)])) J7
                · refine R_iconst_1 dX12_holdsLine_259 ?_
                  refine R_goto dX12_holdsLine_260 ?_
                  exact topV (v := (if a1 = 1 ∧ b1 = 1 then 1 else 0)) (by simp at hb256; first | (rw [if_pos (by omega)]) | (rw [if_neg (by omega)])) J7
              refine iastN dX12_holdsLine_264 hG.a8 rfl (by omega) ?_
              refine iInc6 dX12_holdsLine_265 (winc (by omega)) ?_
              refine R_goto dX12_holdsLine_268 ?_
              refine eqI4 (v := ((s2.length : Nat) : Int)) (by have q9 := congrArg List.length c6; simp only [List.length_cons] at q9; omega) ?_
              exact ih (by omega) _ s2 _ _ _ _ (hO.upd rfl) (StkR_H (by rw [c6]; exact StkR_push hS.2.2)) (by rw [c6]; simp; omega) (by omega) q2
            · exact absurd hb243 (by decide)
          · exact absurd hb99 (by decide)
        · exact absurd hb56 (by decide)
      · refine eqI7 (v := 16) (c3) ?_
        refine iL7 dX12_holdsLine_52 ?_
        refine R_bipush dX12_holdsLine_54 (by decide) ?_
        refine R_icmp_gt dX12_holdsLine_56 (fun hb56 => ?_) (fun hb56 => ?_)
        · refine iL7 dX12_holdsLine_95 ?_
          refine R_bipush dX12_holdsLine_97 (by decide) ?_
          refine R_icmp_ne dX12_holdsLine_99 (fun hb99 => ?_) (fun hb99 => ?_)
          · refine iInc4 dX12_holdsLine_125 (wid (by omega) (by omega)) ?_
            refine eqI4 (v := (((t1.length + 1) : Nat) : Int)) (by omega) ?_
            refine aL0 dX12_holdsLine_128 ?_
            refine R_getR dX12_holdsLine_129 fX12_39.r hG.o rfl ?_
            refine iL4 dX12_holdsLine_132 ?_
            refine R_iconst_1 dX12_holdsLine_134 ?_
            refine subV dX12_holdsLine_135 (wid (by omega) (by omega)) ?_
            refine topV (v := ((t1.length : Nat) : Int)) (by omega) ?_
            refine ialdN dX12_holdsLine_136 hG.a8 rfl (by omega) ?_
            refine topV (v := a1) (hS.2.1) ?_
            refine iS8 dX12_holdsLine_137 ?_
            refine aL0 dX12_holdsLine_139 ?_
            refine R_getR dX12_holdsLine_140 fX12_39.r hG.o rfl ?_
            refine iL4 dX12_holdsLine_143 ?_
            refine ialdN dX12_holdsLine_145 hG.a8 rfl (by omega) ?_
            refine topV (v := b1) (hS.1) ?_
            refine iS9 dX12_holdsLine_146 ?_
            suffices J8 : Run (d + 4) 0 0 mX12_holdsLine 229 [vR M, vI ((n : Nat) : Int), vI ((j : Nat) : Int), vI x, vI (((t1.length + 1) : Nat) : Int), vI (((517 + 4 * n) : Nat) : Int), vI ((i : Nat) : Int), vI 16, vI a1, vI b1, v10] [vI (bI (decide (a1 = 1 ∨ b1 = 1)))] g hK P by
              refine iL7 dX12_holdsLine_148 ?_
              refine R_bipush dX12_holdsLine_150 (by decide) ?_
              refine R_icmp_ne dX12_holdsLine_152 (fun hb152 => ?_) (fun hb152 => ?_)
              · refine iL7 dX12_holdsLine_170 ?_
                refine R_bipush dX12_holdsLine_172 (by decide) ?_
                refine R_icmp_ne dX12_holdsLine_174 (fun hb174 => ?_) (fun hb174 => ?_)
                · refine iL7 dX12_holdsLine_192 ?_
                  refine R_bipush dX12_holdsLine_194 (by decide) ?_
                  refine R_icmp_ne dX12_holdsLine_196 (fun hb196 => ?_) (fun hb196 => ?_)
                  · refine iL8 dX12_holdsLine_216 ?_
                    refine iL9 dX12_holdsLine_218 ?_
                    refine addV dX12_holdsLine_220 (wid (by omega) (by omega)) ?_
                    refine R_if_le dX12_holdsLine_221 (fun hb221 => ?_) (fun hb221 => ?_)
                    · refine R_iconst_0 dX12_holdsLine_228 ?_
                      exact topV (v := bI (decide (a1 = 1 ∨ b1 = 1))) (by first | (rw [bI_t (by simp; omega)]) | (rw [bI_f (by simp; omega)])) J8
                    · refine R_iconst_1 dX12_holdsLine_224 ?_
                      refine R_goto dX12_holdsLine_225 ?_
                      exact topV (v := bI (decide (a1 = 1 ∨ b1 = 1))) (by first | (rw [bI_t (by simp; omega)]) | (rw [bI_f (by simp; omega)])) J8
                  · exact absurd hb196 (by decide)
                · exact absurd hb174 (by decide)
              · exact absurd hb152 (by decide)
            refine iS10 dX12_holdsLine_229 ?_
            refine aL0 dX12_holdsLine_231 ?_
            refine R_getR dX12_holdsLine_232 fX12_39.r hG.o rfl ?_
            refine iL4 dX12_holdsLine_235 ?_
            refine R_iconst_1 dX12_holdsLine_237 ?_
            refine subV dX12_holdsLine_238 (wid (by omega) (by omega)) ?_
            refine topV (v := ((t1.length : Nat) : Int)) (by omega) ?_
            refine iL7 dX12_holdsLine_239 ?_
            refine R_bipush dX12_holdsLine_241 (by decide) ?_
            refine R_icmp_ne dX12_holdsLine_243 (fun hb243 => ?_) (fun hb243 => ?_)
            · suffices J9 : Run (d + 4) 0 0 mX12_holdsLine 264 [vR M, vI ((n : Nat) : Int), vI ((j : Nat) : Int), vI x, vI (((t1.length + 1) : Nat) : Int), vI (((517 + 4 * n) : Nat) : Int), vI ((i : Nat) : Int), vI 16, vI a1, vI b1, vI (bI (decide (a1 = 1 ∨ b1 = 1)))] [vI ((if a1 = 1 ∨ b1 = 1 then 1 else 0)), vI ((t1.length : Nat) : Int), vR (M + 8)] g hK P by
                refine iL10 dX12_holdsLine_254 ?_
                refine R_ifB_eq dX12_holdsLine_256 (fun hb256 => ?_) (fun hb256 => ?_)
                · refine R_iconst_0 dX12_holdsLine_263 ?_
                  exact topV (v := (if a1 = 1 ∨ b1 = 1 then 1 else 0)) (by simp at hb256; first | (rw [if_pos (by omega)]) | (rw [if_neg (by omega)])) J9
                · refine R_iconst_1 dX12_holdsLine_259 ?_
                  refine R_goto dX12_holdsLine_260 ?_
                  exact topV (v := (if a1 = 1 ∨ b1 = 1 then 1 else 0)) (by simp at hb256; first | (rw [if_pos (by omega)]) | (rw [if_neg (by omega)])) J9
              refine iastN dX12_holdsLine_264 hG.a8 rfl (by omega) ?_
              refine iInc6 dX12_holdsLine_265 (winc (by omega)) ?_
              refine R_goto dX12_holdsLine_268 ?_
              refine eqI4 (v := ((s2.length : Nat) : Int)) (by have q9 := congrArg List.length c6; simp only [List.length_cons] at q9; omega) ?_
              exact ih (by omega) _ s2 _ _ _ _ (hO.upd rfl) (StkR_H (by rw [c6]; exact StkR_push hS.2.2)) (by rw [c6]; simp; omega) (by omega) q2
            · exact absurd hb243 (by decide)
          · exact absurd hb99 (by decide)
        · exact absurd hb56 (by decide)
set_option maxHeartbeats 1000000 in
theorem C_X12_sumOf {d : Nat} {g : Gs} {h : Hc} {P : Po} {M : Nat} {w : Nat → Int} (hG : MdG g M) (hW : h (M + 1) = w) (hf : WF w) (hl : LawOK w) {j : Nat} {x hr hu gr vb : Int} (hj : j < 5) (hx1 : -1 ≤ x) (hx2 : x < 8) (hA : Ask M h hr hu gr) (hok : okF (factW w j x hr hu gr)) (K : ∀ h', Off (fun q => q = M + 8) h h' → P (.inl (some (vI (sumW (factW w j x hr hu gr) w vb)))) g h') : Call (d + 5) 0 0 mX12_sumOf [vR M, vI vb, vI ((j : Nat) : Int), vI x] g h P := by
  refine Call_of rfl ⟨by decide +kernel, rfl⟩ (Nat.le_of_ble_eq_true rfl) rfl ?_
  by_cases h3 : w 3 = 1
  · obtain ⟨hl1, -, -, hl2⟩ := hl h3
    have hO : Off (fun q => q = M + 8) h h := Off.rf _ _
    refine R_iconst_0 dX12_sumOf_0 ?_
    refine iS4 dX12_sumOf_1 ?_
    refine R_iconst_0 dX12_sumOf_3 ?_
    refine iS5 dX12_sumOf_4 ?_
    refine loopN ((w 516).toNat) (fun n => ∀ hK : Hc, Off (fun q => q = M + 8) h hK → Run (d + 5) 0 0 mX12_sumOf 6 [vR M, vI vb, vI ((j : Nat) : Int), vI x, vI (sumB (fun n => w (518 + 4 * n)) (sumP (factW w j x hr hu gr) w vb) n), vI ((n : Nat) : Int)] [] g hK P) (fun n hcnn ihn hK hO => ?_) (0) (Nat.zero_le _) h hO
    refine aL0 dX12_sumOf_6 ?_
    refine R_getR dX12_sumOf_7 fX12_13.r hG.o rfl ?_
    refine R_iconst_3 dX12_sumOf_10 ?_
    refine ialdN (k := 3) dX12_sumOf_11 hG.a1 rfl (by decide) ?_
    refine topV (v := w 3) (by rw [hO _ (by omega)]; exact (congrFun hW _).trans (congrArg w (by omega))) ?_
    refine R_iconst_1 dX12_sumOf_12 ?_
    refine R_icmp_ne dX12_sumOf_13 (fun hb13 => ?_) (fun hb13 => ?_)
    · exact absurd h3 hb13
    · refine iL5 dX12_sumOf_16 ?_
      refine aL0 dX12_sumOf_18 ?_
      refine R_getR dX12_sumOf_19 fX12_13.r hG.o rfl ?_
      refine R_sipush dX12_sumOf_22 (by decide) ?_
      refine ialdN (k := 516) dX12_sumOf_25 hG.a1 rfl (by decide) ?_
      refine topV (v := w 516) (by rw [hO _ (by omega)]; exact (congrFun hW _).trans (congrArg w (by omega))) ?_
      refine R_icmp_ge dX12_sumOf_26 (fun hb26 => ?_) (fun hb26 => ?_)
      · have e9 : n = (w 516).toNat := by omega
        subst e9
        refine iL4 dX12_sumOf_83 ?_
        exact R_iret dX12_sumOf_85 rfl (by have := K _ hO; unfold sumW at this; rw [if_pos h3] at this; exact this)
      · have hl3 := (hl2 n (by omega)).1
        have hsb := sumB_rng (f := fun n => w (518 + 4 * n)) (p := sumP (factW w j x hr hu gr) w vb) (m := 99) (by omega) (n := n) (fun k hk => (hl2 k (by omega)).1)
        refine aL0 dX12_sumOf_29 ?_
        refine R_getR dX12_sumOf_30 fX12_13.r hG.o rfl ?_
        refine R_sipush dX12_sumOf_33 (by decide) ?_
        refine R_iconst_4 dX12_sumOf_36 ?_
        refine iL5 dX12_sumOf_37 ?_
        refine mulV dX12_sumOf_39 (v := (((4 * n) : Nat) : Int)) (by rw [wid (by omega) (by omega)]; omega) ?_
        refine addV dX12_sumOf_40 (v := (((517 + (4 * n)) : Nat) : Int)) (by rw [wid (by omega) (by omega)]; omega) ?_
        refine ialdN dX12_sumOf_41 hG.a1 rfl (by omega) ?_
        refine topV (v := w (517 + 4 * n)) (by rw [hO _ (by omega)]; exact (congrFun hW _).trans (congrArg w (by omega))) ?_
        refine iL1 dX12_sumOf_42 ?_
        refine R_icmp_ne dX12_sumOf_43 (fun hb43 => ?_) (fun hb43 => ?_)
        · refine iInc5 dX12_sumOf_77 (winc (by omega)) ?_
          refine R_goto dX12_sumOf_80 ?_
          exact eqI4 (by first | (rw [sumB_f (by simp [sumP]; omega)]; done) | (rw [sumB_f (by simp [sumP, hb54])]; done) | (rw [sumB_t (by simp [sumP, hb54]; omega)]; done)) (ihn (by omega) _ hO)
        · refine aL0 dX12_sumOf_46 ?_
          refine iL5 dX12_sumOf_47 ?_
          refine iL2 dX12_sumOf_49 ?_
          refine iL3 dX12_sumOf_50 ?_
          refine invV3 rfl dX12_sumOf_51 kX12_296 hG.o (Nat.le_of_ble_eq_true rfl) (Nat.zero_le _) (Nat.zero_le _) (C_X12_holdsLine hG (by rw [hO _ (by omega)]; exact hW) hf hl h3 (by omega) hj hx1 hx2 (hA.off hO) hok (fun h1 hO1 => konI ?_))
          replace hO := hO.tr hO1
          refine R_ifB_eq dX12_sumOf_54 (fun hb54 => ?_) (fun hb54 => ?_)
          · refine iInc5 dX12_sumOf_77 (winc (by omega)) ?_
            refine R_goto dX12_sumOf_80 ?_
            exact eqI4 (by first | (rw [sumB_f (by simp [sumP]; omega)]; done) | (rw [sumB_f (by simp [sumP, hb54])]; done) | (rw [sumB_t (by simp [sumP, hb54]; omega)]; done)) (ihn (by omega) _ hO)
          · refine iL4 dX12_sumOf_57 ?_
            refine aL0 dX12_sumOf_59 ?_
            refine R_getR dX12_sumOf_60 fX12_13.r hG.o rfl ?_
            refine R_sipush dX12_sumOf_63 (by decide) ?_
            refine R_iconst_4 dX12_sumOf_66 ?_
            refine iL5 dX12_sumOf_67 ?_
            refine mulV dX12_sumOf_69 (v := (((4 * n) : Nat) : Int)) (by rw [wid (by omega) (by omega)]; omega) ?_
            refine addV dX12_sumOf_70 (v := (((517 + (4 * n)) : Nat) : Int)) (by rw [wid (by omega) (by omega)]; omega) ?_
            refine R_iconst_1 dX12_sumOf_71 ?_
            refine addV dX12_sumOf_72 (v := ((((517 + (4 * n)) + 1) : Nat) : Int)) (by rw [wid (by omega) (by omega)]; omega) ?_
            refine ialdN dX12_sumOf_73 hG.a1 rfl (by omega) ?_
            refine topV (v := w (518 + 4 * n)) (by rw [hO _ (by omega)]; exact (congrFun hW _).trans (congrArg w (by omega))) ?_
            refine addV dX12_sumOf_74 (wid (by omega) (by omega)) ?_
            refine iS4 dX12_sumOf_75 ?_
            refine iInc5 dX12_sumOf_77 (winc (by omega)) ?_
            refine R_goto dX12_sumOf_80 ?_
            exact eqI4 (by first | (rw [sumB_f (by simp [sumP]; omega)]; done) | (rw [sumB_f (by simp [sumP, hb54])]; done) | (rw [sumB_t (by simp [sumP, hb54]; omega)]; done)) (ihn (by omega) _ hO)
  · have hO : Off (fun q => q = M + 8) h h := Off.rf _ _
    refine R_iconst_0 dX12_sumOf_0 ?_
    refine iS4 dX12_sumOf_1 ?_
    refine R_iconst_0 dX12_sumOf_3 ?_
    refine iS5 dX12_sumOf_4 ?_
    refine aL0 dX12_sumOf_6 ?_
    refine R_getR dX12_sumOf_7 fX12_13.r hG.o rfl ?_
    refine R_iconst_3 dX12_sumOf_10 ?_
    refine ialdN (k := 3) dX12_sumOf_11 hG.a1 rfl (by decide) ?_
    refine topV (v := w 3) (by rw [hO _ (by omega)]; exact (congrFun hW _).trans (congrArg w (by omega))) ?_
    refine R_iconst_1 dX12_sumOf_12 ?_
    refine R_icmp_ne dX12_sumOf_13 (fun hb13 => ?_) (fun hb13 => ?_)
    · refine iL4 dX12_sumOf_83 ?_
      exact R_iret dX12_sumOf_85 rfl (by have := K _ (Off.rf _ _); unfold sumW at this; rw [if_neg h3] at this; exact this)
    · exact absurd hb13 h3
set_option maxHeartbeats 400000 in
theorem C_X12_pointBy {d : Nat} {g : Gs} {h : Hc} {P : Po} {M : Nat} {w : Nat → Int} (hG : MdG g M) (hW : h (M + 1) = w) (hf : WF w) (hl : LawOK w) {j x : Nat} {hr hu gr : Int} (hj : j < 5) (hx : (x : Int) < w 1) (hb1 : 0 ≤ hr ∧ hr ≤ 99) (hb2 : 0 ≤ hu ∧ hu ≤ 99) (hb3 : 0 ≤ gr ∧ gr ≤ 99) (K : ∀ h', Mq M h h' → P (.inl (some (vI (ptW w j (x : Int) hr hu gr)))) g h') : Call (d + 6) 0 0 mX12_pointBy [vR M, vI ((j : Nat) : Int), vI ((x : Nat) : Int), vI hr, vI hu, vI gr] g h P := by
  have hcs := hf.cas
  have hok := okF_fact hf hj (c := (x : Int)) (by omega) hb1 hb2 hb3
  refine Call_of rfl ⟨by decide +kernel, rfl⟩ (Nat.le_of_ble_eq_true rfl) rfl ?_
  have hQ : Mq M h h := Mq.rf _ _
  refine aL0 dX12_pointBy_0 ?_
  refine iL3 dX12_pointBy_1 ?_
  refine R_putI dX12_pointBy_2 fX12_286 hG.o ?_
  refine storH (fun h1 e1 => ?_)
  replace hQ : Mq M h h1 := by rw [e1]; exact hQ.put (by omega)
  replace hW : h1 (M + 1) = w := by rw [e1, updH_a (by omega)]; exact hW
  refine aL0 dX12_pointBy_5 ?_
  refine iL4 dX12_pointBy_6 ?_
  refine R_putI dX12_pointBy_8 fX12_277 hG.o ?_
  refine storH (fun h2 e2 => ?_)
  replace hQ : Mq M h h2 := by rw [e2]; exact hQ.put (by omega)
  replace hW : h2 (M + 1) = w := by rw [e2, updH_a (by omega)]; exact hW
  refine aL0 dX12_pointBy_11 ?_
  refine iL5 dX12_pointBy_12 ?_
  refine R_putI dX12_pointBy_14 fX12_283 hG.o ?_
  refine storH (fun h3 e3 => ?_)
  replace hQ : Mq M h h3 := by rw [e3]; exact hQ.put (by omega)
  replace hW : h3 (M + 1) = w := by rw [e3, updH_a (by omega)]; exact hW
  have hA : Ask M h3 (hr) (hu) (gr) := by unfold Ask; simp [e3, e2, e1, updH]
  refine iL4 dX12_pointBy_17 ?_
  refine aL0 dX12_pointBy_19 ?_
  refine iL1 dX12_pointBy_20 ?_
  refine R_iconst_1 dX12_pointBy_21 ?_
  refine invV2 rfl dX12_pointBy_22 kX12_280 hG.o (Nat.le_of_ble_eq_true rfl) (Nat.zero_le _) (Nat.zero_le _) (C_X12_ofJudge hG hW (b := 1) (i := 81 + 4 * j) (by omega) (by omega) (konI ?_))
  have hq4 := hf.me (j := j) (by omega)
  refine addV dX12_pointBy_25 (wid (by omega) (by omega)) ?_
  refine aL0 dX12_pointBy_26 ?_
  refine R_iconst_0 dX12_pointBy_27 ?_
  refine iL1 dX12_pointBy_28 ?_
  refine iL2 dX12_pointBy_29 ?_
  refine invV3 rfl dX12_pointBy_30 kX12_299 hG.o (Nat.le_of_ble_eq_true rfl) (Nat.zero_le _) (Nat.zero_le _) (C_X12_sumOf hG hW hf hl hj (by omega) (by omega) hA hok (fun h5 hx5 => konI ?_))
  replace hQ := hQ.off hx5 (by omega)
  replace hW : h5 (M + 1) = w := by rw [hx5 _ (by omega)]; exact hW
  replace hA := hA.off hx5
  have hs5 := sumW_rng (F := factW w j (x : Int) hr hu gr) hl 0
  refine addV dX12_pointBy_33 (wid (by omega) (by omega)) ?_
  refine iL5 dX12_pointBy_34 ?_
  refine subV dX12_pointBy_36 (wid (by omega) (by omega)) ?_
  refine aL0 dX12_pointBy_37 ?_
  refine R_iconst_1 dX12_pointBy_38 ?_
  refine iL1 dX12_pointBy_39 ?_
  refine iL2 dX12_pointBy_40 ?_
  refine invV3 rfl dX12_pointBy_41 kX12_299 hG.o (Nat.le_of_ble_eq_true rfl) (Nat.zero_le _) (Nat.zero_le _) (C_X12_sumOf hG hW hf hl hj (by omega) (by omega) hA hok (fun h6 hx6 => konI ?_))
  replace hQ := hQ.off hx6 (by omega)
  replace hW : h6 (M + 1) = w := by rw [hx6 _ (by omega)]; exact hW
  replace hA := hA.off hx6
  have hs6 := sumW_rng (F := factW w j (x : Int) hr hu gr) hl 1
  refine subV dX12_pointBy_44 (wid (by omega) (by omega)) ?_
  exact R_iret dX12_pointBy_45 rfl (K _ hQ)
set_option maxHeartbeats 400000 in
theorem C_X12_pointIn {d : Nat} {g : Gs} {h : Hc} {P : Po} {M : Nat} {w : Nat → Int} (hG : MdG g M) (hW : h (M + 1) = w) (hf : WF w) (hl : LawOK w) {j x : Nat} {hr : Int} (hj : j < 5) (hx : (x : Int) < w 1) (hb1 : 0 ≤ hr ∧ hr ≤ 99) (K : ∀ h', Mq M h h' → P (.inl (some (vI (pt0 w j x hr)))) g h') : Call (d + 7) 0 0 mX12_pointIn [vR M, vI ((j : Nat) : Int), vI ((x : Nat) : Int), vI hr] g h P := by
  have hcs := hf.cas
  refine Call_of rfl ⟨by decide +kernel, rfl⟩ (Nat.le_of_ble_eq_true rfl) rfl ?_
  have hQ : Mq M h h := Mq.rf _ _
  refine aL0 dX12_pointIn_0 ?_
  refine iL1 dX12_pointIn_1 ?_
  refine iL2 dX12_pointIn_2 ?_
  refine iL3 dX12_pointIn_3 ?_
  refine aL0 dX12_pointIn_4 ?_
  refine iL1 dX12_pointIn_5 ?_
  refine R_iconst_0 dX12_pointIn_6 ?_
  refine invV2 rfl dX12_pointIn_7 kX12_280 hG.o (Nat.le_of_ble_eq_true rfl) (Nat.zero_le _) (Nat.zero_le _) (C_X12_ofJudge hG hW (b := 0) (i := 80 + 4 * j) (by omega) (by omega) (konI ?_))
  have hq1 := hf.hu (j := j) (by omega)
  refine aL0 dX12_pointIn_10 ?_
  refine iL2 dX12_pointIn_11 ?_
  refine R_iconst_1 dX12_pointIn_12 ?_
  refine invV2x rfl dX12_pointIn_13 kX12_87 hG.o (Nat.le_of_ble_eq_true rfl) rfl (Nat.zero_le _) (Nat.zero_le _) (C_X12_of hG hW (b := 1) (i := 101 + 7 * x) (by omega) (by omega) (konI ?_))
  have hq2 := hf.gr (c := x) (by omega)
  refine invV5 rfl dX12_pointIn_16 kX12_303 hG.o (Nat.le_of_ble_eq_true rfl) (Nat.zero_le _) (Nat.zero_le _) (C_X12_pointBy hG hW hf hl (by omega) (by omega) (by omega) (by omega) (by omega) (fun h3 hx3 => konI ?_))
  replace hQ := hQ.tr hx3
  replace hW := hx3.w hW
  exact R_iret dX12_pointIn_19 rfl (K _ hQ)
set_option maxHeartbeats 400000 in
theorem C_X12_pointNow {d : Nat} {g : Gs} {h : Hc} {P : Po} {M : Nat} {w : Nat → Int} (hG : MdG g M) (hW : h (M + 1) = w) (hf : WF w) (hl : LawOK w) {j x : Nat} (hj : j < 5) (hx : (x : Int) < w 1) (K : ∀ h', Mq M h h' → P (.inl (some (vI (pt0 w j x (w 4))))) g h') : Call (d + 8) 0 0 mX12_pointNow [vR M, vI ((j : Nat) : Int), vI ((x : Nat) : Int)] g h P := by
  have hcs := hf.cas
  refine Call_of rfl ⟨by decide +kernel, rfl⟩ (Nat.le_of_ble_eq_true rfl) rfl ?_
  have hQ : Mq M h h := Mq.rf _ _
  refine aL0 dX12_pointNow_0 ?_
  refine iL1 dX12_pointNow_1 ?_
  refine iL2 dX12_pointNow_2 ?_
  refine aL0 dX12_pointNow_3 ?_
  refine R_getR dX12_pointNow_4 fX12_13.r hG.o rfl ?_
  refine R_iconst_4 dX12_pointNow_7 ?_
  refine ialdN (k := 4) dX12_pointNow_8 hG.a1 rfl (by decide) ?_
  refine topV (v := w 4) (congrFun hW _) ?_
  have hq1 := hf.hou
  refine invV3 rfl dX12_pointNow_9 kX12_307 hG.o (Nat.le_of_ble_eq_true rfl) (Nat.zero_le _) (Nat.zero_le _) (C_X12_pointIn hG hW hf hl (by omega) (by omega) (by omega) (fun h2 hx2 => konI ?_))
  replace hQ := hQ.tr hx2
  replace hW := hx2.w hW
  exact R_iret dX12_pointNow_12 rfl (K _ hQ)
set_option maxHeartbeats 400000 in
theorem C_X12_frees {d : Nat} {g : Gs} {h : Hc} {P : Po} {M : Nat} {w : Nat → Int} (hG : MdG g M) (hW : h (M + 1) = w) (hf : WF w) (hl : LawOK w) {j x : Nat} (hj : j < 5) (hx : (x : Int) < w 1) (K : ∀ h', Mq M h h' → P (.inl (some (vI (bI (frN w x j))))) g h') : Call (d + 9) 0 0 mX12_frees [vR M, vI ((j : Nat) : Int), vI ((x : Nat) : Int)] g h P := by
  have hcs := hf.cas
  refine Call_of rfl ⟨by decide +kernel, rfl⟩ (Nat.le_of_ble_eq_true rfl) rfl ?_
  have hQ : Mq M h h := Mq.rf _ _
  refine aL0 dX12_frees_0 ?_
  refine iL1 dX12_frees_1 ?_
  refine iL2 dX12_frees_2 ?_
  refine invV2 rfl dX12_frees_3 kX12_310 hG.o (Nat.le_of_ble_eq_true rfl) (Nat.zero_le _) (Nat.zero_le _) (C_X12_pointNow hG hW hf hl (by omega) (by omega) (fun h1 hx1 => konI ?_))
  replace hQ := hQ.tr hx1
  replace hW := hx1.w hW
  suffices J2 : Run (d + 9) 0 0 mX12_frees 14 [vR M, vI ((j : Nat) : Int), vI ((x : Nat) : Int)] [vI (bI (frN w x j))] g h1 P by
    refine R_if_lt dX12_frees_6 (fun hb6 => ?_) (fun hb6 => ?_)
    · refine R_iconst_0 dX12_frees_13 ?_
      exact topV (v := bI (frN w x j)) (by first | (rw [bI_t (by simp [frN]; omega)]) | (rw [bI_f (by simp [frN]; omega)])) J2
    · refine R_iconst_1 dX12_frees_9 ?_
      refine R_goto dX12_frees_10 ?_
      exact topV (v := bI (frN w x j)) (by first | (rw [bI_t (by simp [frN]; omega)]) | (rw [bI_f (by simp [frN]; omega)])) J2
  exact R_zret dX12_frees_14 rfl (bI01 _) (K _ hQ)
set_option maxHeartbeats 400000 in
theorem C_X12_wouldBe {d : Nat} {g : Gs} {h : Hc} {P : Po} {M : Nat} {w : Nat → Int} (hG : MdG g M) (hW : h (M + 1) = w) (hf : WF w) (hl : LawOK w) {j x : Nat} {hr : Int} (hj : j < 5) (hx : (x : Int) < w 1) (hb1 : 0 ≤ hr ∧ hr ≤ 99) (K : ∀ h', Mq M h h' → P (.inl (some (vI (wdW w j x hr)))) g h') : Call (d + 7) 0 0 mX12_wouldBe [vR M, vI ((j : Nat) : Int), vI ((x : Nat) : Int), vI hr] g h P := by
  have hcs := hf.cas
  refine Call_of rfl ⟨by decide +kernel, rfl⟩ (Nat.le_of_ble_eq_true rfl) rfl ?_
  have hQ : Mq M h h := Mq.rf _ _
  refine R_iconst_0 dX12_wouldBe_0 ?_
  refine iL3 dX12_wouldBe_1 ?_
  refine aL0 dX12_wouldBe_2 ?_
  refine R_getR dX12_wouldBe_3 fX12_13.r hG.o rfl ?_
  refine R_iconst_4 dX12_wouldBe_6 ?_
  refine ialdN (k := 4) dX12_wouldBe_7 hG.a1 rfl (by decide) ?_
  refine topV (v := w 4) (congrFun hW _) ?_
  have hq1 := hf.hou
  refine subV dX12_wouldBe_8 (wid (by omega) (by omega)) ?_
  refine R_mmax dX12_wouldBe_9 kX12_313 lb_max (Nat.le_of_ble_eq_true rfl) ?_
  refine topV (v := latW w hr) (rfl) ?_
  refine iS4 dX12_wouldBe_12 ?_
  have hlt := latW_rng hf (hr := hr) (by omega)
  refine aL0 dX12_wouldBe_14 ?_
  refine iL1 dX12_wouldBe_15 ?_
  refine iL2 dX12_wouldBe_16 ?_
  refine iL3 dX12_wouldBe_17 ?_
  refine R_bipush dX12_wouldBe_18 (by decide) ?_
  refine aL0 dX12_wouldBe_20 ?_
  refine iL1 dX12_wouldBe_21 ?_
  refine R_iconst_0 dX12_wouldBe_22 ?_
  refine invV2x rfl dX12_wouldBe_23 kX12_280 hG.o (Nat.le_of_ble_eq_true rfl) rfl (Nat.zero_le _) (Nat.zero_le _) (C_X12_ofJudge hG hW (b := 0) (i := 80 + 4 * j) (by omega) (by omega) (konI ?_))
  have hq2 := hf.hu (j := j) (by omega)
  refine iL4 dX12_wouldBe_26 ?_
  refine addV dX12_wouldBe_28 (wid (by omega) (by omega)) ?_
  refine R_mmin dX12_wouldBe_29 kX12_318 lb_min (Nat.le_of_ble_eq_true rfl) ?_
  refine topV (v := mn99 (w (80 + 4 * j) + latW w hr)) (rfl) ?_
  have hmn := mn99_rng (x := w (80 + 4 * j) + latW w hr) (by omega)
  refine aL0 dX12_wouldBe_32 ?_
  refine iL2 dX12_wouldBe_33 ?_
  refine R_iconst_1 dX12_wouldBe_34 ?_
  refine invV2x rfl dX12_wouldBe_35 kX12_87 hG.o (Nat.le_of_ble_eq_true rfl) rfl (Nat.zero_le _) (Nat.zero_le _) (C_X12_of hG hW (b := 1) (i := 101 + 7 * x) (by omega) (by omega) (konI ?_))
  have hq3 := hf.gr (c := x) (by omega)
  refine invV5 rfl dX12_wouldBe_38 kX12_303 hG.o (Nat.le_of_ble_eq_true rfl) (Nat.zero_le _) (Nat.zero_le _) (C_X12_pointBy hG hW hf hl (by omega) (by omega) (by omega) (by omega) (by omega) (fun h4 hx4 => konI ?_))
  replace hQ := hQ.tr hx4
  replace hW := hx4.w hW
  exact R_iret dX12_wouldBe_41 rfl (K _ hQ)
set_option maxHeartbeats 400000 in
theorem C_X12_crumbsOf {d : Nat} {g : Gs} {h : Hc} {P : Po} {M : Nat} {w : Nat → Int} (hG : MdG g M) (hW : h (M + 1) = w) (hf : WF w) (hl : LawOK w) {j : Nat} {x : Int} (hj : j < 5) (hx1 : -1 ≤ x) (hx2 : x < w 1) (K : ∀ h', Mq M h h' → P (.inl (some (vI (crW w j x)))) g h') : Call (d + 6) 0 0 mX12_crumbsOf [vR M, vI ((j : Nat) : Int), vI x] g h P := by
  have hcs := hf.cas
  have hho := hf.hou
  have hhu := hf.hu hj
  refine Call_of rfl ⟨by decide +kernel, rfl⟩ (Nat.le_of_ble_eq_true rfl) rfl ?_
  have hQ : Mq M h h := Mq.rf _ _
  refine aL0 dX12_crumbsOf_0 ?_
  refine aL0 dX12_crumbsOf_1 ?_
  refine R_getR dX12_crumbsOf_2 fX12_13.r hG.o rfl ?_
  refine R_iconst_4 dX12_crumbsOf_5 ?_
  refine ialdN (k := 4) dX12_crumbsOf_6 hG.a1 rfl (by decide) ?_
  refine topV (v := w 4) (congrFun hW _) ?_
  have hq1 := hf.hou
  refine R_putI dX12_crumbsOf_7 fX12_286 hG.o ?_
  refine storH (fun h2 e2 => ?_)
  replace hQ : Mq M h h2 := by rw [e2]; exact hQ.put (by omega)
  replace hW : h2 (M + 1) = w := by rw [e2, updH_a (by omega)]; exact hW
  refine aL0 dX12_crumbsOf_10 ?_
  refine aL0 dX12_crumbsOf_11 ?_
  refine iL1 dX12_crumbsOf_12 ?_
  refine R_iconst_0 dX12_crumbsOf_13 ?_
  refine invV2 rfl dX12_crumbsOf_14 kX12_280 hG.o (Nat.le_of_ble_eq_true rfl) (Nat.zero_le _) (Nat.zero_le _) (C_X12_ofJudge hG hW (b := 0) (i := 80 + 4 * j) (by omega) (by omega) (konI ?_))
  have hq3 := hf.hu (j := j) (by omega)
  refine R_putI dX12_crumbsOf_17 fX12_277 hG.o ?_
  refine storH (fun h4 e4 => ?_)
  replace hQ : Mq M h h4 := by rw [e4]; exact hQ.put (by omega)
  replace hW : h4 (M + 1) = w := by rw [e4, updH_a (by omega)]; exact hW
  refine aL0 dX12_crumbsOf_20 ?_
  suffices J5 : Run (d + 6) 0 0 mX12_crumbsOf 36 [vR M, vI ((j : Nat) : Int), vI x] [vI ((if 0 ≤ x then w (101 + 7 * x.toNat) else 0)), vR M] g h4 P by
    refine iL2 dX12_crumbsOf_21 ?_
    refine R_iconst_m1 dX12_crumbsOf_22 ?_
    refine R_icmp_ne dX12_crumbsOf_23 (fun hb23 => ?_) (fun hb23 => ?_)
    · refine aL0 dX12_crumbsOf_30 ?_
      refine iL2 dX12_crumbsOf_31 ?_
      refine topV (v := ((x.toNat : Nat) : Int)) (by omega) ?_
      refine R_iconst_1 dX12_crumbsOf_32 ?_
      refine invV2 rfl dX12_crumbsOf_33 kX12_87 hG.o (Nat.le_of_ble_eq_true rfl) (Nat.zero_le _) (Nat.zero_le _) (C_X12_of hG hW (b := 1) (i := 101 + 7 * x.toNat) (by omega) (by omega) (konI ?_))
      have hq6 := hf.gr (c := x.toNat) (by omega)
      exact topV (v := (if 0 ≤ x then w (101 + 7 * x.toNat) else 0)) (by first | (rw [if_pos (by omega)]) | (rw [if_neg (by omega)])) J5
    · refine R_iconst_0 dX12_crumbsOf_26 ?_
      refine R_goto dX12_crumbsOf_27 ?_
      exact topV (v := (if 0 ≤ x then w (101 + 7 * x.toNat) else 0)) (by first | (rw [if_pos (by omega)]) | (rw [if_neg (by omega)])) J5
  refine R_putI dX12_crumbsOf_36 fX12_283 hG.o ?_
  refine storH (fun h7 e7 => ?_)
  replace hQ : Mq M h h7 := by rw [e7]; exact hQ.put (by omega)
  replace hW : h7 (M + 1) = w := by rw [e7, updH_a (by omega)]; exact hW
  have hA : Ask M h7 ((w 4)) ((w (80 + 4 * j))) (((if 0 ≤ x then w (101 + 7 * x.toNat) else 0))) := by unfold Ask; simp [e7, e4, e2, updH]
  have hgq := hf.gr (c := x.toNat) (by omega)
  have hok := okF_fact hf hj (c := x) (hr := w 4) (hu := w (80 + 4 * j)) (gr := (if 0 ≤ x then w (101 + 7 * x.toNat) else 0)) (by omega) (by omega) (by omega) (by split <;> omega)
  have hfe : factW w j x (w 4) (w (80 + 4 * j)) (if 0 ≤ x then w (101 + 7 * x.toNat) else 0) = factW w j x (w 4) (w (80 + 4 * j)) (w (101 + 7 * x.toNat)) := by
    funext k
    by_cases e9 : k = 4
    · subst e9; simp only [factW]; split <;> simp_all
    · exact fact_gr e9
  refine R_iconst_0 dX12_crumbsOf_39 ?_
  refine aL0 dX12_crumbsOf_40 ?_
  refine R_getR dX12_crumbsOf_41 fX12_13.r hG.o rfl ?_
  refine R_bipush dX12_crumbsOf_44 (by decide) ?_
  refine aL0 dX12_crumbsOf_46 ?_
  refine R_getR dX12_crumbsOf_47 fX12_13.r hG.o rfl ?_
  refine R_iconst_4 dX12_crumbsOf_50 ?_
  refine ialdN (k := 4) dX12_crumbsOf_51 hG.a1 rfl (by decide) ?_
  refine topV (v := w 4) (congrFun hW _) ?_
  have hq8 := hf.hou
  refine topV (v := (((w 4).toNat : Nat) : Int)) (by omega) ?_
  refine addV dX12_crumbsOf_52 (v := (((8 + (w 4).toNat) : Nat) : Int)) (by rw [wid (by omega) (by omega)]; omega) ?_
  refine ialdN dX12_crumbsOf_53 hG.a1 rfl (by omega) ?_
  refine topV (v := w (8 + (w 4).toNat)) (congrFun hW _) ?_
  refine aL0 dX12_crumbsOf_54 ?_
  refine R_iconst_2 dX12_crumbsOf_55 ?_
  refine iL1 dX12_crumbsOf_56 ?_
  refine iL2 dX12_crumbsOf_57 ?_
  refine invV3 rfl dX12_crumbsOf_58 kX12_299 hG.o (Nat.le_of_ble_eq_true rfl) (Nat.zero_le _) (Nat.zero_le _) (C_X12_sumOf hG hW hf hl hj (by omega) (by omega) hA hok (fun h9 hx9 => konI ?_))
  replace hQ := hQ.off hx9 (by omega)
  replace hW : h9 (M + 1) = w := by rw [hx9 _ (by omega)]; exact hW
  replace hA := hA.off hx9
  have hs9 := sumW_rng (F := factW w j x (w 4) (w (80 + 4 * j)) (if 0 ≤ x then w (101 + 7 * x.toNat) else 0)) hl 2
  refine topV (v := sumW (factW w j x (w 4) (w (80 + 4 * j)) (w (101 + 7 * x.toNat))) w 2) (by rw [hfe]) ?_
  have hs99 := sumW_rng (F := factW w j x (w 4) (w (80 + 4 * j)) (w (101 + 7 * x.toNat))) hl 2
  have hin := hf.inn (w 4).toNat (by omega)
  refine addV dX12_crumbsOf_61 (wid (by omega) (by omega)) ?_
  refine R_bipush dX12_crumbsOf_62 (by decide) ?_
  refine aL0 dX12_crumbsOf_64 ?_
  refine iL1 dX12_crumbsOf_65 ?_
  refine R_iconst_2 dX12_crumbsOf_66 ?_
  refine invV2 rfl dX12_crumbsOf_67 kX12_280 hG.o (Nat.le_of_ble_eq_true rfl) (Nat.zero_le _) (Nat.zero_le _) (C_X12_ofJudge hG hW (b := 2) (i := 82 + 4 * j) (by omega) (by omega) (konI ?_))
  have hq10 := hf.nv (j := j) (by omega)
  refine mulV dX12_crumbsOf_70 (wid (by omega) (by omega)) ?_
  refine subV dX12_crumbsOf_71 (wid (by omega) (by omega)) ?_
  refine R_mmax dX12_crumbsOf_72 kX12_313 lb_max (Nat.le_of_ble_eq_true rfl) ?_
  exact R_iret dX12_crumbsOf_75 rfl (K _ hQ)
