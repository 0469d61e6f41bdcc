theorem th_all {L : List Cond} (h : L.all (fun w => decide (w ∈ lw_tbl) && (gw w && vx_ot w)) = true) : ∀ w ∈ L, w ∈ lwg ∧ vx_ot w = true := by
  intro w hw
  have := List.all_eq_true.mp h w hw
  simp only [Bool.and_eq_true, decide_eq_true_eq] at this
  exact ⟨lwg_of this.1 this.2.1, this.2.2⟩
set_option maxRecDepth 100000 in
theorem tX11_121 : TH RX11 121 123 "java/lang/IllegalArgumentException" ["java/lang/RuntimeException", "java/lang/Exception"] := ⟨by decide +kernel, by decide +kernel, th_all (by decide +kernel), by decide⟩
set_option maxRecDepth 100000 in
theorem tX11_127 : TH RX11 127 129 "java/lang/UnsupportedOperationException" ["java/lang/RuntimeException", "java/lang/Exception"] := ⟨by decide +kernel, by decide +kernel, th_all (by decide +kernel), by decide⟩
set_option maxRecDepth 100000 in
theorem tX11_182 : TH RX11 182 184 "java/util/NoSuchElementException" ["java/lang/RuntimeException", "java/lang/Exception"] := ⟨by decide +kernel, by decide +kernel, th_all (by decide +kernel), by decide⟩
set_option maxRecDepth 100000 in
theorem tX11_251 : TH RX11 251 253 "java/lang/IllegalStateException" ["java/lang/RuntimeException", "java/lang/Exception"] := ⟨by decide +kernel, by decide +kernel, th_all (by decide +kernel), by decide⟩
set_option maxRecDepth 100000 in
theorem tX11_320 : TH RX11 320 322 "java/lang/IndexOutOfBoundsException" ["java/lang/RuntimeException", "java/lang/Exception"] := ⟨by decide +kernel, by decide +kernel, th_all (by decide +kernel), by decide⟩
