theorem lwg_t0 {w : Cond} (i : Nat) (h : (k2_sels lw_privs)[i]? = some w) (hg : gw w = true) : w ∈ lwg := lwg_of (List.mem_append_left _ (List.mem_of_getElem? h)) hg
theorem lwg_t1 {w : Cond} (i : Nat) (h : tables_1_1[i]? = some w) (hg : gw w = true) : w ∈ lwg := lwg_of (List.mem_append_right _ (List.mem_append_left _ (List.mem_of_getElem? h))) hg
theorem lwg_t2 {w : Cond} (i : Nat) (h : tables_1_2[i]? = some w) (hg : gw w = true) : w ∈ lwg := lwg_of (List.mem_append_right _ (List.mem_append_right _ (List.mem_append_left _ (List.mem_of_getElem? h)))) hg
theorem lwg_t3 {w : Cond} (i : Nat) (h : tables_1_3[i]? = some w) (hg : gw w = true) : w ∈ lwg := lwg_of (List.mem_append_right _ (List.mem_append_right _ (List.mem_append_right _ (List.mem_append_left _ (List.mem_of_getElem? h))))) hg
theorem lwg_t4 {w : Cond} (i : Nat) (h : tables_1_4[i]? = some w) (hg : gw w = true) : w ∈ lwg := lwg_of (List.mem_append_right _ (List.mem_append_right _ (List.mem_append_right _ (List.mem_append_right _ (List.mem_append_left _ (List.mem_of_getElem? h)))))) hg
theorem lwg_t5 {w : Cond} (i : Nat) (h : tables_1_5[i]? = some w) (hg : gw w = true) : w ∈ lwg := lwg_of (List.mem_append_right _ (List.mem_append_right _ (List.mem_append_right _ (List.mem_append_right _ (List.mem_append_right _ (List.mem_append_left _ (List.mem_of_getElem? h))))))) hg
theorem lwg_t6 {w : Cond} (i : Nat) (h : tables_1_6[i]? = some w) (hg : gw w = true) : w ∈ lwg := lwg_of (List.mem_append_right _ (List.mem_append_right _ (List.mem_append_right _ (List.mem_append_right _ (List.mem_append_right _ (List.mem_append_right _ (List.mem_append_left _ (List.mem_of_getElem? h)))))))) hg
theorem lwg_t7 {w : Cond} (i : Nat) (h : tables_1_7[i]? = some w) (hg : gw w = true) : w ∈ lwg := lwg_of (List.mem_append_right _ (List.mem_append_right _ (List.mem_append_right _ (List.mem_append_right _ (List.mem_append_right _ (List.mem_append_right _ (List.mem_append_right _ (List.mem_append_left _ (List.mem_of_getElem? h))))))))) hg
theorem lwg_t8 {w : Cond} (i : Nat) (h : tables_1_8[i]? = some w) (hg : gw w = true) : w ∈ lwg := lwg_of (List.mem_append_right _ (List.mem_append_right _ (List.mem_append_right _ (List.mem_append_right _ (List.mem_append_right _ (List.mem_append_right _ (List.mem_append_right _ (List.mem_append_right _ (List.mem_append_left _ (List.mem_of_getElem? h)))))))))) hg
theorem lwg_t9 {w : Cond} (i : Nat) (h : tables_1_9[i]? = some w) (hg : gw w = true) : w ∈ lwg := lwg_of (List.mem_append_right _ (List.mem_append_right _ (List.mem_append_right _ (List.mem_append_right _ (List.mem_append_right _ (List.mem_append_right _ (List.mem_append_right _ (List.mem_append_right _ (List.mem_append_right _ (List.mem_append_left _ (List.mem_of_getElem? h))))))))))) hg
theorem lwg_t10 {w : Cond} (i : Nat) (h : tables_1_10[i]? = some w) (hg : gw w = true) : w ∈ lwg := lwg_of (List.mem_append_right _ (List.mem_append_right _ (List.mem_append_right _ (List.mem_append_right _ (List.mem_append_right _ (List.mem_append_right _ (List.mem_append_right _ (List.mem_append_right _ (List.mem_append_right _ (List.mem_append_right _ (List.mem_of_getElem? h))))))))))) hg
theorem igX0 : ∀ w ∈ u_ws RX0 TX0 3, w ∈ lwg := lwg_lays inX0
theorem igX1 : ∀ w ∈ u_ws RX1 TX1 3, w ∈ lwg := lwg_lays inX1
theorem igX2 : ∀ w ∈ u_ws RX2 TX2 7, w ∈ lwg := lwg_lays inX2
theorem igX3 : ∀ w ∈ u_ws RX3 TX3 3, w ∈ lwg := lwg_lays inX3
theorem igX4 : ∀ w ∈ u_ws RX4 TX4 3, w ∈ lwg := lwg_lays inX4
theorem igX5 : ∀ w ∈ u_ws RX5 TX5 8, w ∈ lwg := lwg_lays inX5
theorem igX6 : ∀ w ∈ u_ws RX6 TX6 3, w ∈ lwg := lwg_lays inX6
theorem igX7 : ∀ w ∈ u_ws RX7 TX7 3, w ∈ lwg := lwg_lays inX7
theorem igX8 : ∀ w ∈ u_ws RX8 TX8 6, w ∈ lwg := lwg_lays inX8
theorem igX10 : ∀ w ∈ u_ws RX10 TX10 20, w ∈ lwg := lwg_lays inX10
theorem igX11 : ∀ w ∈ u_ws RX11 TX11 16, w ∈ lwg := lwg_lays inX11
theorem igX12 : ∀ w ∈ u_ws RX12 TX12 31, w ∈ lwg := lwg_lays inX12
set_option maxRecDepth 100000 in
theorem fX8_11 : FPW RX8 11 8 0 6 true (.array .int) true := ⟨RX8, TX8, "HungryBench$Tape", tyX8, rfl, by decide, by decide +kernel, by decide, igX8, lwg_t1 45 (by decide +kernel) rfl, Or.inl rfl, tyX8_ok, nmX8, rfl, by decide +kernel, (fun _ => rfl)⟩
set_option maxRecDepth 100000 in
theorem fX11_393 : FP RX11 393 8 0 6 true := ⟨RX8, TX8, "HungryBench$Tape", rfl, by decide, by decide +kernel, by decide, igX8, lwg_t1 46 (by decide +kernel) rfl, Or.inl rfl⟩
set_option maxRecDepth 100000 in
theorem fX8_15 : FPW RX8 15 8 1 6 true (.array .int) true := ⟨RX8, TX8, "HungryBench$Tape", tyX8, rfl, by decide, by decide +kernel, by decide, igX8, lwg_t1 47 (by decide +kernel) rfl, Or.inl rfl, tyX8_ok, nmX8, rfl, by decide +kernel, (fun _ => rfl)⟩
set_option maxRecDepth 100000 in
theorem fX8_18 : FPW RX8 18 8 2 6 true (.array .int) true := ⟨RX8, TX8, "HungryBench$Tape", tyX8, rfl, by decide, by decide +kernel, by decide, igX8, lwg_t1 48 (by decide +kernel) rfl, Or.inl rfl, tyX8_ok, nmX8, rfl, by decide +kernel, (fun _ => rfl)⟩
set_option maxRecDepth 100000 in
theorem fX8_21 : FPW RX8 21 8 3 6 false (.int) false := ⟨RX8, TX8, "HungryBench$Tape", tyX8, rfl, by decide, by decide +kernel, by decide, igX8, lwg_t1 49 (by decide +kernel) rfl, Or.inl rfl, tyX8_ok, nmX8, rfl, by decide +kernel, (fun e => nomatch e)⟩
set_option maxRecDepth 100000 in
theorem fX11_103 : FPW RX11 103 8 3 6 false (.int) false := ⟨RX8, TX8, "HungryBench$Tape", tyX8, rfl, by decide, by decide +kernel, by decide, igX8, lwg_t1 50 (by decide +kernel) rfl, Or.inl rfl, tyX8_ok, nmX8, rfl, by decide +kernel, (fun e => nomatch e)⟩
set_option maxRecDepth 100000 in
theorem fX8_25 : FPW RX8 25 8 4 6 false (.int) false := ⟨RX8, TX8, "HungryBench$Tape", tyX8, rfl, by decide, by decide +kernel, by decide, igX8, lwg_t1 51 (by decide +kernel) rfl, Or.inl rfl, tyX8_ok, nmX8, rfl, by decide +kernel, (fun e => nomatch e)⟩
set_option maxRecDepth 100000 in
theorem fX8_28 : FPW RX8 28 8 5 6 false (.int) false := ⟨RX8, TX8, "HungryBench$Tape", tyX8, rfl, by decide, by decide +kernel, by decide, igX8, lwg_t1 52 (by decide +kernel) rfl, Or.inl rfl, tyX8_ok, nmX8, rfl, by decide +kernel, (fun e => nomatch e)⟩
set_option maxRecDepth 100000 in
theorem fX11_118 : FPW RX11 118 8 5 6 false (.int) false := ⟨RX8, TX8, "HungryBench$Tape", tyX8, rfl, by decide, by decide +kernel, by decide, igX8, lwg_t1 53 (by decide +kernel) rfl, Or.inl rfl, tyX8_ok, nmX8, rfl, by decide +kernel, (fun e => nomatch e)⟩
set_option maxRecDepth 100000 in
theorem fX4_11 : FPW RX4 11 4 0 3 true (.array .int) true := ⟨RX4, TX4, "HungryBench$Log", tyX4, rfl, by decide, by decide +kernel, by decide, igX4, lwg_t1 80 (by decide +kernel) rfl, Or.inl rfl, tyX4_ok, nmX4, rfl, by decide +kernel, (fun _ => rfl)⟩
set_option maxRecDepth 100000 in
theorem fX4_15 : FPW RX4 15 4 1 3 false (.int) false := ⟨RX4, TX4, "HungryBench$Log", tyX4, rfl, by decide, by decide +kernel, by decide, igX4, lwg_t1 81 (by decide +kernel) rfl, Or.inl rfl, tyX4_ok, nmX4, rfl, by decide +kernel, (fun e => nomatch e)⟩
set_option maxRecDepth 100000 in
theorem fX4_19 : FPW RX4 19 4 2 3 false (.int) false := ⟨RX4, TX4, "HungryBench$Log", tyX4, rfl, by decide, by decide +kernel, by decide, igX4, lwg_t1 82 (by decide +kernel) rfl, Or.inl rfl, tyX4_ok, nmX4, rfl, by decide +kernel, (fun e => nomatch e)⟩
set_option maxRecDepth 100000 in
theorem fX11_382 : FPW RX11 382 4 2 3 false (.int) false := ⟨RX4, TX4, "HungryBench$Log", tyX4, rfl, by decide, by decide +kernel, by decide, igX4, lwg_t1 83 (by decide +kernel) rfl, Or.inl rfl, tyX4_ok, nmX4, rfl, by decide +kernel, (fun e => nomatch e)⟩
set_option maxRecDepth 100000 in
theorem fX10_9 : FPW RX10 9 9 0 20 false (.int) false := ⟨RX10, TX10, "HungryBench$Town", tyX10, rfl, by decide, by decide +kernel, by decide, igX10, lwg_t1 94 (by decide +kernel) rfl, Or.inl rfl, tyX10_ok, nmX10, rfl, by decide +kernel, (fun e => nomatch e)⟩
set_option maxRecDepth 100000 in
theorem fX0_54 : FPW RX0 54 9 0 20 false (.int) false := ⟨RX10, TX10, "HungryBench$Town", tyX10, rfl, by decide, by decide +kernel, by decide, igX10, lwg_t1 95 (by decide +kernel) rfl, Or.inl rfl, tyX10_ok, nmX10, rfl, by decide +kernel, (fun e => nomatch e)⟩
set_option maxRecDepth 100000 in
theorem fX7_36 : FPW RX7 36 9 0 20 false (.int) false := ⟨RX10, TX10, "HungryBench$Town", tyX10, rfl, by decide, by decide +kernel, by decide, igX10, lwg_t1 96 (by decide +kernel) rfl, Or.inl rfl, tyX10_ok, nmX10, rfl, by decide +kernel, (fun e => nomatch e)⟩
set_option maxRecDepth 100000 in
theorem fX5_61 : FPW RX5 61 9 0 20 false (.int) false := ⟨RX10, TX10, "HungryBench$Town", tyX10, rfl, by decide, by decide +kernel, by decide, igX10, lwg_t1 97 (by decide +kernel) rfl, Or.inl rfl, tyX10_ok, nmX10, rfl, by decide +kernel, (fun e => nomatch e)⟩
set_option maxRecDepth 100000 in
theorem fX1_81 : FPW RX1 81 9 0 20 false (.int) false := ⟨RX10, TX10, "HungryBench$Town", tyX10, rfl, by decide, by decide +kernel, by decide, igX10, lwg_t1 98 (by decide +kernel) rfl, Or.inl rfl, tyX10_ok, nmX10, rfl, by decide +kernel, (fun e => nomatch e)⟩
set_option maxRecDepth 100000 in
theorem fX11_266 : FPW RX11 266 9 0 20 false (.int) false := ⟨RX10, TX10, "HungryBench$Town", tyX10, rfl, by decide, by decide +kernel, by decide, igX10, lwg_t1 99 (by decide +kernel) rfl, Or.inl rfl, tyX10_ok, nmX10, rfl, by decide +kernel, (fun e => nomatch e)⟩
set_option maxRecDepth 100000 in
theorem fX10_15 : FPW RX10 15 9 1 20 false (.int) false := ⟨RX10, TX10, "HungryBench$Town", tyX10, rfl, by decide, by decide +kernel, by decide, igX10, lwg_t1 100 (by decide +kernel) rfl, Or.inl rfl, tyX10_ok, nmX10, rfl, by decide +kernel, (fun e => nomatch e)⟩
set_option maxRecDepth 100000 in
theorem fX5_46 : FPW RX5 46 9 1 20 false (.int) false := ⟨RX10, TX10, "HungryBench$Town", tyX10, rfl, by decide, by decide +kernel, by decide, igX10, lwg_t1 101 (by decide +kernel) rfl, Or.inl rfl, tyX10_ok, nmX10, rfl, by decide +kernel, (fun e => nomatch e)⟩
set_option maxRecDepth 100000 in
theorem fX0_78 : FPW RX0 78 9 1 20 false (.int) false := ⟨RX10, TX10, "HungryBench$Town", tyX10, rfl, by decide, by decide +kernel, by decide, igX10, lwg_t1 102 (by decide +kernel) rfl, Or.inl rfl, tyX10_ok, nmX10, rfl, by decide +kernel, (fun e => nomatch e)⟩
set_option maxRecDepth 100000 in
theorem fX7_107 : FPW RX7 107 9 1 20 false (.int) false := ⟨RX10, TX10, "HungryBench$Town", tyX10, rfl, by decide, by decide +kernel, by decide, igX10, lwg_t1 103 (by decide +kernel) rfl, Or.inl rfl, tyX10_ok, nmX10, rfl, by decide +kernel, (fun e => nomatch e)⟩
set_option maxRecDepth 100000 in
theorem fX1_88 : FPW RX1 88 9 1 20 false (.int) false := ⟨RX10, TX10, "HungryBench$Town", tyX10, rfl, by decide, by decide +kernel, by decide, igX10, lwg_t1 104 (by decide +kernel) rfl, Or.inl rfl, tyX10_ok, nmX10, rfl, by decide +kernel, (fun e => nomatch e)⟩
set_option maxRecDepth 100000 in
theorem fX11_290 : FPW RX11 290 9 1 20 false (.int) false := ⟨RX10, TX10, "HungryBench$Town", tyX10, rfl, by decide, by decide +kernel, by decide, igX10, lwg_t1 105 (by decide +kernel) rfl, Or.inl rfl, tyX10_ok, nmX10, rfl, by decide +kernel, (fun e => nomatch e)⟩
set_option maxRecDepth 100000 in
theorem fX10_18 : FPW RX10 18 9 2 20 false (.int) false := ⟨RX10, TX10, "HungryBench$Town", tyX10, rfl, by decide, by decide +kernel, by decide, igX10, lwg_t1 106 (by decide +kernel) rfl, Or.inl rfl, tyX10_ok, nmX10, rfl, by decide +kernel, (fun e => nomatch e)⟩
set_option maxRecDepth 100000 in
theorem fX11_124 : FPW RX11 124 9 2 20 false (.int) false := ⟨RX10, TX10, "HungryBench$Town", tyX10, rfl, by decide, by decide +kernel, by decide, igX10, lwg_t1 107 (by decide +kernel) rfl, Or.inl rfl, tyX10_ok, nmX10, rfl, by decide +kernel, (fun e => nomatch e)⟩
set_option maxRecDepth 100000 in
theorem fX10_21 : FPW RX10 21 9 3 20 false (.int) false := ⟨RX10, TX10, "HungryBench$Town", tyX10, rfl, by decide, by decide +kernel, by decide, igX10, lwg_t1 108 (by decide +kernel) rfl, Or.inl rfl, tyX10_ok, nmX10, rfl, by decide +kernel, (fun e => nomatch e)⟩
set_option maxRecDepth 100000 in
theorem fX0_42 : FPW RX0 42 9 3 20 false (.int) false := ⟨RX10, TX10, "HungryBench$Town", tyX10, rfl, by decide, by decide +kernel, by decide, igX10, lwg_t1 109 (by decide +kernel) rfl, Or.inl rfl, tyX10_ok, nmX10, rfl, by decide +kernel, (fun e => nomatch e)⟩
set_option maxRecDepth 100000 in
theorem fX5_58 : FPW RX5 58 9 3 20 false (.int) false := ⟨RX10, TX10, "HungryBench$Town", tyX10, rfl, by decide, by decide +kernel, by decide, igX10, lwg_t1 110 (by decide +kernel) rfl, Or.inl rfl, tyX10_ok, nmX10, rfl, by decide +kernel, (fun e => nomatch e)⟩
set_option maxRecDepth 100000 in
theorem fX7_42 : FPW RX7 42 9 3 20 false (.int) false := ⟨RX10, TX10, "HungryBench$Town", tyX10, rfl, by decide, by decide +kernel, by decide, igX10, lwg_t1 111 (by decide +kernel) rfl, Or.inl rfl, tyX10_ok, nmX10, rfl, by decide +kernel, (fun e => nomatch e)⟩
set_option maxRecDepth 100000 in
theorem fX1_58 : FPW RX1 58 9 3 20 false (.int) false := ⟨RX10, TX10, "HungryBench$Town", tyX10, rfl, by decide, by decide +kernel, by decide, igX10, lwg_t1 112 (by decide +kernel) rfl, Or.inl rfl, tyX10_ok, nmX10, rfl, by decide +kernel, (fun e => nomatch e)⟩
set_option maxRecDepth 100000 in
theorem fX11_159 : FPW RX11 159 9 3 20 false (.int) false := ⟨RX10, TX10, "HungryBench$Town", tyX10, rfl, by decide, by decide +kernel, by decide, igX10, lwg_t1 113 (by decide +kernel) rfl, Or.inl rfl, tyX10_ok, nmX10, rfl, by decide +kernel, (fun e => nomatch e)⟩
set_option maxRecDepth 100000 in
theorem fX10_24 : FPW RX10 24 9 4 20 false (.int) false := ⟨RX10, TX10, "HungryBench$Town", tyX10, rfl, by decide, by decide +kernel, by decide, igX10, lwg_t1 114 (by decide +kernel) rfl, Or.inl rfl, tyX10_ok, nmX10, rfl, by decide +kernel, (fun e => nomatch e)⟩
set_option maxRecDepth 100000 in
theorem fX0_48 : FPW RX0 48 9 4 20 false (.int) false := ⟨RX10, TX10, "HungryBench$Town", tyX10, rfl, by decide, by decide +kernel, by decide, igX10, lwg_t1 115 (by decide +kernel) rfl, Or.inl rfl, tyX10_ok, nmX10, rfl, by decide +kernel, (fun e => nomatch e)⟩
set_option maxRecDepth 100000 in
theorem fX7_68 : FPW RX7 68 9 4 20 false (.int) false := ⟨RX10, TX10, "HungryBench$Town", tyX10, rfl, by decide, by decide +kernel, by decide, igX10, lwg_t1 116 (by decide +kernel) rfl, Or.inl rfl, tyX10_ok, nmX10, rfl, by decide +kernel, (fun e => nomatch e)⟩
set_option maxRecDepth 100000 in
theorem fX11_373 : FPW RX11 373 9 4 20 false (.int) false := ⟨RX10, TX10, "HungryBench$Town", tyX10, rfl, by decide, by decide +kernel, by decide, igX10, lwg_t1 117 (by decide +kernel) rfl, Or.inl rfl, tyX10_ok, nmX10, rfl, by decide +kernel, (fun e => nomatch e)⟩
set_option maxRecDepth 100000 in
theorem fX10_27 : FPW RX10 27 9 5 20 false (.int) false := ⟨RX10, TX10, "HungryBench$Town", tyX10, rfl, by decide, by decide +kernel, by decide, igX10, lwg_t1 118 (by decide +kernel) rfl, Or.inl rfl, tyX10_ok, nmX10, rfl, by decide +kernel, (fun e => nomatch e)⟩
set_option maxRecDepth 100000 in
theorem fX7_99 : FPW RX7 99 9 5 20 false (.int) false := ⟨RX10, TX10, "HungryBench$Town", tyX10, rfl, by decide, by decide +kernel, by decide, igX10, lwg_t1 119 (by decide +kernel) rfl, Or.inl rfl, tyX10_ok, nmX10, rfl, by decide +kernel, (fun e => nomatch e)⟩
set_option maxRecDepth 100000 in
theorem fX11_344 : FPW RX11 344 9 5 20 false (.int) false := ⟨RX10, TX10, "HungryBench$Town", tyX10, rfl, by decide, by decide +kernel, by decide, igX10, lwg_t1 120 (by decide +kernel) rfl, Or.inl rfl, tyX10_ok, nmX10, rfl, by decide +kernel, (fun e => nomatch e)⟩
set_option maxRecDepth 100000 in
theorem fX10_30 : FPW RX10 30 9 6 20 true (.array .int) true := ⟨RX10, TX10, "HungryBench$Town", tyX10, rfl, by decide, by decide +kernel, by decide, igX10, lwg_t1 121 (by decide +kernel) rfl, Or.inl rfl, tyX10_ok, nmX10, rfl, by decide +kernel, (fun _ => rfl)⟩
set_option maxRecDepth 100000 in
theorem fX0_72 : FP RX0 72 9 6 20 true := ⟨RX10, TX10, "HungryBench$Town", rfl, by decide, by decide +kernel, by decide, igX10, lwg_t1 122 (by decide +kernel) rfl, Or.inl rfl⟩
set_option maxRecDepth 100000 in
theorem fX1_62 : FP RX1 62 9 6 20 true := ⟨RX10, TX10, "HungryBench$Town", rfl, by decide, by decide +kernel, by decide, igX10, lwg_t1 123 (by decide +kernel) rfl, Or.inl rfl⟩
set_option maxRecDepth 100000 in
theorem fX7_81 : FP RX7 81 9 6 20 true := ⟨RX10, TX10, "HungryBench$Town", rfl, by decide, by decide +kernel, by decide, igX10, lwg_t1 124 (by decide +kernel) rfl, Or.inl rfl⟩
set_option maxRecDepth 100000 in
theorem fX11_146 : FP RX11 146 9 6 20 true := ⟨RX10, TX10, "HungryBench$Town", rfl, by decide, by decide +kernel, by decide, igX10, lwg_t1 125 (by decide +kernel) rfl, Or.inl rfl⟩
set_option maxRecDepth 100000 in
theorem fX5_110 : FP RX5 110 9 6 20 true := ⟨RX10, TX10, "HungryBench$Town", rfl, by decide, by decide +kernel, by decide, igX10, lwg_t1 126 (by decide +kernel) rfl, Or.inl rfl⟩
set_option maxRecDepth 100000 in
theorem fX10_34 : FPW RX10 34 9 7 20 true (.array .int) true := ⟨RX10, TX10, "HungryBench$Town", tyX10, rfl, by decide, by decide +kernel, by decide, igX10, lwg_t1 127 (by decide +kernel) rfl, Or.inl rfl, tyX10_ok, nmX10, rfl, by decide +kernel, (fun _ => rfl)⟩
set_option maxRecDepth 100000 in
theorem fX1_51 : FP RX1 51 9 7 20 true := ⟨RX10, TX10, "HungryBench$Town", rfl, by decide, by decide +kernel, by decide, igX10, lwg_t1 128 (by decide +kernel) rfl, Or.inl rfl⟩
set_option maxRecDepth 100000 in
theorem fX0_65 : FP RX0 65 9 7 20 true := ⟨RX10, TX10, "HungryBench$Town", rfl, by decide, by decide +kernel, by decide, igX10, lwg_t1 129 (by decide +kernel) rfl, Or.inl rfl⟩
set_option maxRecDepth 100000 in
theorem fX11_150 : FP RX11 150 9 7 20 true := ⟨RX10, TX10, "HungryBench$Town", rfl, by decide, by decide +kernel, by decide, igX10, lwg_t1 130 (by decide +kernel) rfl, Or.inl rfl⟩
set_option maxRecDepth 100000 in
theorem fX10_37 : FPW RX10 37 9 8 20 true (.array .int) true := ⟨RX10, TX10, "HungryBench$Town", tyX10, rfl, by decide, by decide +kernel, by decide, igX10, lwg_t1 131 (by decide +kernel) rfl, Or.inl rfl, tyX10_ok, nmX10, rfl, by decide +kernel, (fun _ => rfl)⟩
set_option maxRecDepth 100000 in
theorem fX1_32 : FP RX1 32 9 8 20 true := ⟨RX10, TX10, "HungryBench$Town", rfl, by decide, by decide +kernel, by decide, igX10, lwg_t1 132 (by decide +kernel) rfl, Or.inl rfl⟩
set_option maxRecDepth 100000 in
theorem fX0_69 : FP RX0 69 9 8 20 true := ⟨RX10, TX10, "HungryBench$Town", rfl, by decide, by decide +kernel, by decide, igX10, lwg_t1 133 (by decide +kernel) rfl, Or.inl rfl⟩
set_option maxRecDepth 100000 in
theorem fX11_153 : FP RX11 153 9 8 20 true := ⟨RX10, TX10, "HungryBench$Town", rfl, by decide, by decide +kernel, by decide, igX10, lwg_t1 134 (by decide +kernel) rfl, Or.inl rfl⟩
set_option maxRecDepth 100000 in
theorem fX5_139 : FP RX5 139 9 8 20 true := ⟨RX10, TX10, "HungryBench$Town", rfl, by decide, by decide +kernel, by decide, igX10, lwg_t1 135 (by decide +kernel) rfl, Or.inl rfl⟩
set_option maxRecDepth 100000 in
theorem fX10_40 : FPW RX10 40 9 9 20 true (.array .int) true := ⟨RX10, TX10, "HungryBench$Town", tyX10, rfl, by decide, by decide +kernel, by decide, igX10, lwg_t1 136 (by decide +kernel) rfl, Or.inl rfl, tyX10_ok, nmX10, rfl, by decide +kernel, (fun _ => rfl)⟩
set_option maxRecDepth 100000 in
theorem fX0_75 : FP RX0 75 9 9 20 true := ⟨RX10, TX10, "HungryBench$Town", rfl, by decide, by decide +kernel, by decide, igX10, lwg_t1 137 (by decide +kernel) rfl, Or.inl rfl⟩
set_option maxRecDepth 100000 in
theorem fX11_156 : FP RX11 156 9 9 20 true := ⟨RX10, TX10, "HungryBench$Town", rfl, by decide, by decide +kernel, by decide, igX10, lwg_t1 138 (by decide +kernel) rfl, Or.inl rfl⟩
set_option maxRecDepth 100000 in
theorem fX5_116 : FP RX5 116 9 9 20 true := ⟨RX10, TX10, "HungryBench$Town", rfl, by decide, by decide +kernel, by decide, igX10, lwg_t1 139 (by decide +kernel) rfl, Or.inl rfl⟩
set_option maxRecDepth 100000 in
theorem fX10_43 : FPW RX10 43 9 10 20 true (.array .int) true := ⟨RX10, TX10, "HungryBench$Town", tyX10, rfl, by decide, by decide +kernel, by decide, igX10, lwg_t1 140 (by decide +kernel) rfl, Or.inl rfl, tyX10_ok, nmX10, rfl, by decide +kernel, (fun _ => rfl)⟩
set_option maxRecDepth 100000 in
theorem fX1_35 : FP RX1 35 9 10 20 true := ⟨RX10, TX10, "HungryBench$Town", rfl, by decide, by decide +kernel, by decide, igX10, lwg_t1 141 (by decide +kernel) rfl, Or.inl rfl⟩
set_option maxRecDepth 100000 in
theorem fX0_88 : FP RX0 88 9 10 20 true := ⟨RX10, TX10, "HungryBench$Town", rfl, by decide, by decide +kernel, by decide, igX10, lwg_t1 142 (by decide +kernel) rfl, Or.inl rfl⟩
set_option maxRecDepth 100000 in
theorem fX11_191 : FP RX11 191 9 10 20 true := ⟨RX10, TX10, "HungryBench$Town", rfl, by decide, by decide +kernel, by decide, igX10, lwg_t1 143 (by decide +kernel) rfl, Or.inl rfl⟩
set_option maxRecDepth 100000 in
theorem fX10_46 : FPW RX10 46 9 11 20 true (.array .int) true := ⟨RX10, TX10, "HungryBench$Town", tyX10, rfl, by decide, by decide +kernel, by decide, igX10, lwg_t1 144 (by decide +kernel) rfl, Or.inl rfl, tyX10_ok, nmX10, rfl, by decide +kernel, (fun _ => rfl)⟩
set_option maxRecDepth 100000 in
theorem fX1_38 : FP RX1 38 9 11 20 true := ⟨RX10, TX10, "HungryBench$Town", rfl, by decide, by decide +kernel, by decide, igX10, lwg_t1 145 (by decide +kernel) rfl, Or.inl rfl⟩
set_option maxRecDepth 100000 in
theorem fX0_91 : FP RX0 91 9 11 20 true := ⟨RX10, TX10, "HungryBench$Town", rfl, by decide, by decide +kernel, by decide, igX10, lwg_t1 146 (by decide +kernel) rfl, Or.inl rfl⟩
set_option maxRecDepth 100000 in
theorem fX5_100 : FP RX5 100 9 11 20 true := ⟨RX10, TX10, "HungryBench$Town", rfl, by decide, by decide +kernel, by decide, igX10, lwg_t1 147 (by decide +kernel) rfl, Or.inl rfl⟩
set_option maxRecDepth 100000 in
theorem fX11_194 : FP RX11 194 9 11 20 true := ⟨RX10, TX10, "HungryBench$Town", rfl, by decide, by decide +kernel, by decide, igX10, lwg_t1 148 (by decide +kernel) rfl, Or.inl rfl⟩
set_option maxRecDepth 100000 in
theorem fX10_49 : FPW RX10 49 9 12 20 true (.array .int) true := ⟨RX10, TX10, "HungryBench$Town", tyX10, rfl, by decide, by decide +kernel, by decide, igX10, lwg_t1 149 (by decide +kernel) rfl, Or.inl rfl, tyX10_ok, nmX10, rfl, by decide +kernel, (fun _ => rfl)⟩
set_option maxRecDepth 100000 in
theorem fX1_41 : FP RX1 41 9 12 20 true := ⟨RX10, TX10, "HungryBench$Town", rfl, by decide, by decide +kernel, by decide, igX10, lwg_t1 150 (by decide +kernel) rfl, Or.inl rfl⟩
set_option maxRecDepth 100000 in
theorem fX0_94 : FP RX0 94 9 12 20 true := ⟨RX10, TX10, "HungryBench$Town", rfl, by decide, by decide +kernel, by decide, igX10, lwg_t1 151 (by decide +kernel) rfl, Or.inl rfl⟩
set_option maxRecDepth 100000 in
theorem fX5_73 : FP RX5 73 9 12 20 true := ⟨RX10, TX10, "HungryBench$Town", rfl, by decide, by decide +kernel, by decide, igX10, lwg_t1 152 (by decide +kernel) rfl, Or.inl rfl⟩
set_option maxRecDepth 100000 in
theorem fX11_197 : FP RX11 197 9 12 20 true := ⟨RX10, TX10, "HungryBench$Town", rfl, by decide, by decide +kernel, by decide, igX10, lwg_t1 153 (by decide +kernel) rfl, Or.inl rfl⟩
set_option maxRecDepth 100000 in
theorem fX10_52 : FPW RX10 52 9 13 20 true (.array .int) true := ⟨RX10, TX10, "HungryBench$Town", tyX10, rfl, by decide, by decide +kernel, by decide, igX10, lwg_t1 154 (by decide +kernel) rfl, Or.inl rfl, tyX10_ok, nmX10, rfl, by decide +kernel, (fun _ => rfl)⟩
set_option maxRecDepth 100000 in
theorem fX1_25 : FP RX1 25 9 13 20 true := ⟨RX10, TX10, "HungryBench$Town", rfl, by decide, by decide +kernel, by decide, igX10, lwg_t1 155 (by decide +kernel) rfl, Or.inl rfl⟩
set_option maxRecDepth 100000 in
theorem fX0_97 : FP RX0 97 9 13 20 true := ⟨RX10, TX10, "HungryBench$Town", rfl, by decide, by decide +kernel, by decide, igX10, lwg_t1 156 (by decide +kernel) rfl, Or.inl rfl⟩
set_option maxRecDepth 100000 in
theorem fX11_200 : FP RX11 200 9 13 20 true := ⟨RX10, TX10, "HungryBench$Town", rfl, by decide, by decide +kernel, by decide, igX10, lwg_t1 157 (by decide +kernel) rfl, Or.inl rfl⟩
set_option maxRecDepth 100000 in
theorem fX10_55 : FPW RX10 55 9 14 20 true (.array .int) true := ⟨RX10, TX10, "HungryBench$Town", tyX10, rfl, by decide, by decide +kernel, by decide, igX10, lwg_t1 158 (by decide +kernel) rfl, Or.inl rfl, tyX10_ok, nmX10, rfl, by decide +kernel, (fun _ => rfl)⟩
set_option maxRecDepth 100000 in
theorem fX1_44 : FP RX1 44 9 14 20 true := ⟨RX10, TX10, "HungryBench$Town", rfl, by decide, by decide +kernel, by decide, igX10, lwg_t1 159 (by decide +kernel) rfl, Or.inl rfl⟩
set_option maxRecDepth 100000 in
theorem fX7_59 : FP RX7 59 9 14 20 true := ⟨RX10, TX10, "HungryBench$Town", rfl, by decide, by decide +kernel, by decide, igX10, lwg_t1 160 (by decide +kernel) rfl, Or.inl rfl⟩
set_option maxRecDepth 100000 in
theorem fX5_64 : FP RX5 64 9 14 20 true := ⟨RX10, TX10, "HungryBench$Town", rfl, by decide, by decide +kernel, by decide, igX10, lwg_t1 161 (by decide +kernel) rfl, Or.inl rfl⟩
set_option maxRecDepth 100000 in
theorem fX11_203 : FP RX11 203 9 14 20 true := ⟨RX10, TX10, "HungryBench$Town", rfl, by decide, by decide +kernel, by decide, igX10, lwg_t1 162 (by decide +kernel) rfl, Or.inl rfl⟩
set_option maxRecDepth 100000 in
theorem fX10_58 : FPW RX10 58 9 15 20 true (.array .int) true := ⟨RX10, TX10, "HungryBench$Town", tyX10, rfl, by decide, by decide +kernel, by decide, igX10, lwg_t1 163 (by decide +kernel) rfl, Or.inl rfl, tyX10_ok, nmX10, rfl, by decide +kernel, (fun _ => rfl)⟩
set_option maxRecDepth 100000 in
theorem fX7_62 : FP RX7 62 9 15 20 true := ⟨RX10, TX10, "HungryBench$Town", rfl, by decide, by decide +kernel, by decide, igX10, lwg_t1 164 (by decide +kernel) rfl, Or.inl rfl⟩
set_option maxRecDepth 100000 in
theorem fX11_206 : FP RX11 206 9 15 20 true := ⟨RX10, TX10, "HungryBench$Town", rfl, by decide, by decide +kernel, by decide, igX10, lwg_t1 165 (by decide +kernel) rfl, Or.inl rfl⟩
set_option maxRecDepth 100000 in
theorem fX10_61 : FPW RX10 61 9 16 20 true (.array .int) true := ⟨RX10, TX10, "HungryBench$Town", tyX10, rfl, by decide, by decide +kernel, by decide, igX10, lwg_t1 166 (by decide +kernel) rfl, Or.inl rfl, tyX10_ok, nmX10, rfl, by decide +kernel, (fun _ => rfl)⟩
set_option maxRecDepth 100000 in
theorem fX7_65 : FP RX7 65 9 16 20 true := ⟨RX10, TX10, "HungryBench$Town", rfl, by decide, by decide +kernel, by decide, igX10, lwg_t1 167 (by decide +kernel) rfl, Or.inl rfl⟩
set_option maxRecDepth 100000 in
theorem fX11_209 : FP RX11 209 9 16 20 true := ⟨RX10, TX10, "HungryBench$Town", rfl, by decide, by decide +kernel, by decide, igX10, lwg_t1 168 (by decide +kernel) rfl, Or.inl rfl⟩
set_option maxRecDepth 100000 in
theorem fX10_64 : FPW RX10 64 9 17 20 true (.array .int) true := ⟨RX10, TX10, "HungryBench$Town", tyX10, rfl, by decide, by decide +kernel, by decide, igX10, lwg_t1 169 (by decide +kernel) rfl, Or.inl rfl, tyX10_ok, nmX10, rfl, by decide +kernel, (fun _ => rfl)⟩
set_option maxRecDepth 100000 in
theorem fX10_67 : FPW RX10 67 9 18 20 true (.array .int) true := ⟨RX10, TX10, "HungryBench$Town", tyX10, rfl, by decide, by decide +kernel, by decide, igX10, lwg_t1 170 (by decide +kernel) rfl, Or.inl rfl, tyX10_ok, nmX10, rfl, by decide +kernel, (fun _ => rfl)⟩
set_option maxRecDepth 100000 in
theorem fX1_65 : FP RX1 65 9 18 20 true := ⟨RX10, TX10, "HungryBench$Town", rfl, by decide, by decide +kernel, by decide, igX10, lwg_t1 171 (by decide +kernel) rfl, Or.inl rfl⟩
set_option maxRecDepth 100000 in
theorem fX0_107 : FP RX0 107 9 18 20 true := ⟨RX10, TX10, "HungryBench$Town", rfl, by decide, by decide +kernel, by decide, igX10, lwg_t1 172 (by decide +kernel) rfl, Or.inl rfl⟩
set_option maxRecDepth 100000 in
theorem fX11_230 : FP RX11 230 9 18 20 true := ⟨RX10, TX10, "HungryBench$Town", rfl, by decide, by decide +kernel, by decide, igX10, lwg_t1 173 (by decide +kernel) rfl, Or.inl rfl⟩
set_option maxRecDepth 100000 in
theorem fX10_73 : FPW RX10 73 9 19 20 true (.object "HungryBench$Log") true := ⟨RX10, TX10, "HungryBench$Town", tyX10, rfl, by decide, by decide +kernel, by decide, igX10, lwg_t1 174 (by decide +kernel) rfl, Or.inl rfl, tyX10_ok, nmX10, rfl, by decide +kernel, (fun _ => rfl)⟩
set_option maxRecDepth 100000 in
theorem fX7_71 : FP RX7 71 9 19 20 true := ⟨RX10, TX10, "HungryBench$Town", rfl, by decide, by decide +kernel, by decide, igX10, lwg_t1 175 (by decide +kernel) rfl, Or.inl rfl⟩
set_option maxRecDepth 100000 in
theorem fX11_354 : FP RX11 354 9 19 20 true := ⟨RX10, TX10, "HungryBench$Town", rfl, by decide, by decide +kernel, by decide, igX10, lwg_t1 176 (by decide +kernel) rfl, Or.inl rfl⟩
set_option maxRecDepth 100000 in
theorem fX2_11 : FPW RX2 11 2 0 7 false (.int) false := ⟨RX2, TX2, "HungryBench$Law", tyX2, rfl, by decide, by decide +kernel, by decide, igX2, lwg_t1 224 (by decide +kernel) rfl, Or.inl rfl, tyX2_ok, nmX2, rfl, by decide +kernel, (fun e => nomatch e)⟩
set_option maxRecDepth 100000 in
theorem fX11_140 : FPW RX11 140 2 0 7 false (.int) false := ⟨RX2, TX2, "HungryBench$Law", tyX2, rfl, by decide, by decide +kernel, by decide, igX2, lwg_t1 225 (by decide +kernel) rfl, Or.inl rfl, tyX2_ok, nmX2, rfl, by decide +kernel, (fun e => nomatch e)⟩
set_option maxRecDepth 100000 in
theorem fX2_17 : FPW RX2 17 2 1 7 false (.int) false := ⟨RX2, TX2, "HungryBench$Law", tyX2, rfl, by decide, by decide +kernel, by decide, igX2, lwg_t1 226 (by decide +kernel) rfl, Or.inl rfl, tyX2_ok, nmX2, rfl, by decide +kernel, (fun e => nomatch e)⟩
set_option maxRecDepth 100000 in
theorem fX2_20 : FPW RX2 20 2 2 7 true (.array .int) true := ⟨RX2, TX2, "HungryBench$Law", tyX2, rfl, by decide, by decide +kernel, by decide, igX2, lwg_t1 227 (by decide +kernel) rfl, Or.inl rfl, tyX2_ok, nmX2, rfl, by decide +kernel, (fun _ => rfl)⟩
set_option maxRecDepth 100000 in
theorem fX2_24 : FPW RX2 24 2 3 7 true (.array .int) true := ⟨RX2, TX2, "HungryBench$Law", tyX2, rfl, by decide, by decide +kernel, by decide, igX2, lwg_t1 228 (by decide +kernel) rfl, Or.inl rfl, tyX2_ok, nmX2, rfl, by decide +kernel, (fun _ => rfl)⟩
set_option maxRecDepth 100000 in
theorem fX2_27 : FPW RX2 27 2 4 7 true (.array .int) true := ⟨RX2, TX2, "HungryBench$Law", tyX2, rfl, by decide, by decide +kernel, by decide, igX2, lwg_t1 229 (by decide +kernel) rfl, Or.inl rfl, tyX2_ok, nmX2, rfl, by decide +kernel, (fun _ => rfl)⟩
set_option maxRecDepth 100000 in
theorem fX2_30 : FPW RX2 30 2 5 7 true (.array .int) true := ⟨RX2, TX2, "HungryBench$Law", tyX2, rfl, by decide, by decide +kernel, by decide, igX2, lwg_t1 230 (by decide +kernel) rfl, Or.inl rfl, tyX2_ok, nmX2, rfl, by decide +kernel, (fun _ => rfl)⟩
set_option maxRecDepth 100000 in
theorem fX2_33 : FPW RX2 33 2 6 7 true (.array .int) true := ⟨RX2, TX2, "HungryBench$Law", tyX2, rfl, by decide, by decide +kernel, by decide, igX2, lwg_t1 231 (by decide +kernel) rfl, Or.inl rfl, tyX2_ok, nmX2, rfl, by decide +kernel, (fun _ => rfl)⟩
set_option maxRecDepth 100000 in
theorem fX0_11 : FPW RX0 11 0 2 3 true (.object "HungryBench$Town") true := ⟨RX0, TX0, "HungryBench$AssizeText", tyX0, rfl, by decide, by decide +kernel, by decide, igX0, lwg_t2 16 (by decide +kernel) rfl, Or.inl rfl, tyX0_ok, nmX0, rfl, by decide +kernel, (fun _ => rfl)⟩
set_option maxRecDepth 100000 in
theorem fX9_7_0 : FPW RX9 7 0 0 3 true (.object "HungryBench$Tape") true := ⟨RX0, TX0, "HungryBench$Text", tyX0, rfl, by decide, by decide +kernel, by decide, igX0, lwg_t2 17 (by decide +kernel) rfl, Or.inl rfl, tyX0_ok, nmX0, rfl, by decide +kernel, (fun _ => rfl)⟩
set_option maxRecDepth 100000 in
theorem fX9_7_3 : FPW RX9 7 3 0 3 true (.object "HungryBench$Tape") true := ⟨RX3, TX3, "HungryBench$Text", tyX3, rfl, by decide, by decide +kernel, by decide, igX3, lwg_t2 17 (by decide +kernel) rfl, Or.inl rfl, tyX3_ok, nmX3, rfl, by decide +kernel, (fun _ => rfl)⟩
set_option maxRecDepth 100000 in
theorem fX0_15 : FP RX0 15 0 0 3 true := ⟨RX0, TX0, "HungryBench$AssizeText", rfl, by decide, by decide +kernel, by decide, igX0, lwg_t2 18 (by decide +kernel) rfl, Or.inr (lwg_t2 19 (by decide +kernel) rfl)⟩
set_option maxRecDepth 100000 in
theorem fX3_17 : FP RX3 17 3 0 3 true := ⟨RX3, TX3, "HungryBench$LawText", rfl, by decide, by decide +kernel, by decide, igX3, lwg_t2 20 (by decide +kernel) rfl, Or.inr (lwg_t2 21 (by decide +kernel) rfl)⟩
set_option maxRecDepth 100000 in
theorem fX9_13_0 : FPW RX9 13 0 1 3 false (.int) true := ⟨RX0, TX0, "HungryBench$Text", tyX0, rfl, by decide, by decide +kernel, by decide, igX0, lwg_t2 22 (by decide +kernel) rfl, Or.inl rfl, tyX0_ok, nmX0, rfl, by decide +kernel, (fun _ => rfl)⟩
set_option maxRecDepth 100000 in
theorem fX9_13_3 : FPW RX9 13 3 1 3 false (.int) true := ⟨RX3, TX3, "HungryBench$Text", tyX3, rfl, by decide, by decide +kernel, by decide, igX3, lwg_t2 22 (by decide +kernel) rfl, Or.inl rfl, tyX3_ok, nmX3, rfl, by decide +kernel, (fun _ => rfl)⟩
set_option maxRecDepth 100000 in
theorem fX3_11 : FPW RX3 11 3 2 3 true (.object "HungryBench$Law") true := ⟨RX3, TX3, "HungryBench$LawText", tyX3, rfl, by decide, by decide +kernel, by decide, igX3, lwg_t2 36 (by decide +kernel) rfl, Or.inl rfl, tyX3_ok, nmX3, rfl, by decide +kernel, (fun _ => rfl)⟩
set_option maxRecDepth 100000 in
theorem fX1_17 : FPW RX1 17 1 0 3 true (.object "HungryBench$Town") true := ⟨RX1, TX1, "HungryBench$Court", tyX1, rfl, by decide, by decide +kernel, by decide, igX1, lwg_t2 48 (by decide +kernel) rfl, Or.inl rfl, tyX1_ok, nmX1, rfl, by decide +kernel, (fun _ => rfl)⟩
set_option maxRecDepth 100000 in
theorem fX1_21 : FPW RX1 21 1 1 3 true (.object "HungryBench$Law") true := ⟨RX1, TX1, "HungryBench$Court", tyX1, rfl, by decide, by decide +kernel, by decide, igX1, lwg_t2 49 (by decide +kernel) rfl, Or.inl rfl, tyX1_ok, nmX1, rfl, by decide +kernel, (fun _ => rfl)⟩
set_option maxRecDepth 100000 in
theorem fX1_11 : FPW RX1 11 1 2 3 true (.array .int) true := ⟨RX1, TX1, "HungryBench$Court", tyX1, rfl, by decide, by decide +kernel, by decide, igX1, lwg_t2 50 (by decide +kernel) rfl, Or.inl rfl, tyX1_ok, nmX1, rfl, by decide +kernel, (fun _ => rfl)⟩
set_option maxRecDepth 100000 in
theorem fX7_15 : FPW RX7 15 7 0 3 true (.object "HungryBench$Town") true := ⟨RX7, TX7, "HungryBench$Sitting", tyX7, rfl, by decide, by decide +kernel, by decide, igX7, lwg_t2 64 (by decide +kernel) rfl, Or.inl rfl, tyX7_ok, nmX7, rfl, by decide +kernel, (fun _ => rfl)⟩
set_option maxRecDepth 100000 in
theorem fX7_19 : FPW RX7 19 7 1 3 true (.object "HungryBench$Court") true := ⟨RX7, TX7, "HungryBench$Sitting", tyX7, rfl, by decide, by decide +kernel, by decide, igX7, lwg_t2 65 (by decide +kernel) rfl, Or.inl rfl, tyX7_ok, nmX7, rfl, by decide +kernel, (fun _ => rfl)⟩
set_option maxRecDepth 100000 in
theorem fX7_9 : FPW RX7 9 7 2 3 true (.array .int) true := ⟨RX7, TX7, "HungryBench$Sitting", tyX7, rfl, by decide, by decide +kernel, by decide, igX7, lwg_t2 66 (by decide +kernel) rfl, Or.inl rfl, tyX7_ok, nmX7, rfl, by decide +kernel, (fun _ => rfl)⟩
set_option maxRecDepth 100000 in
theorem fX5_32 : FPW RX5 32 5 0 8 true (.object "HungryBench$Town") true := ⟨RX5, TX5, "HungryBench$Matches", tyX5, rfl, by decide, by decide +kernel, by decide, igX5, lwg_t2 80 (by decide +kernel) rfl, Or.inl rfl, tyX5_ok, nmX5, rfl, by decide +kernel, (fun _ => rfl)⟩
set_option maxRecDepth 100000 in
theorem fX5_36 : FPW RX5 36 5 1 8 true (.object "HungryBench$Court") true := ⟨RX5, TX5, "HungryBench$Matches", tyX5, rfl, by decide, by decide +kernel, by decide, igX5, lwg_t2 81 (by decide +kernel) rfl, Or.inl rfl, tyX5_ok, nmX5, rfl, by decide +kernel, (fun _ => rfl)⟩
set_option maxRecDepth 100000 in
theorem fX5_9 : FPW RX5 9 5 2 8 true (.array .long) true := ⟨RX5, TX5, "HungryBench$Matches", tyX5, rfl, by decide, by decide +kernel, by decide, igX5, lwg_t2 82 (by decide +kernel) rfl, Or.inl rfl, tyX5_ok, nmX5, rfl, by decide +kernel, (fun _ => rfl)⟩
set_option maxRecDepth 100000 in
theorem fX5_15 : FPW RX5 15 5 3 8 true (.array .int) true := ⟨RX5, TX5, "HungryBench$Matches", tyX5, rfl, by decide, by decide +kernel, by decide, igX5, lwg_t2 83 (by decide +kernel) rfl, Or.inl rfl, tyX5_ok, nmX5, rfl, by decide +kernel, (fun _ => rfl)⟩
set_option maxRecDepth 100000 in
theorem fX5_19 : FPW RX5 19 5 4 8 true (.array .int) true := ⟨RX5, TX5, "HungryBench$Matches", tyX5, rfl, by decide, by decide +kernel, by decide, igX5, lwg_t2 84 (by decide +kernel) rfl, Or.inl rfl, tyX5_ok, nmX5, rfl, by decide +kernel, (fun _ => rfl)⟩
set_option maxRecDepth 100000 in
theorem fX5_22 : FPW RX5 22 5 5 8 true (.array .int) true := ⟨RX5, TX5, "HungryBench$Matches", tyX5, rfl, by decide, by decide +kernel, by decide, igX5, lwg_t2 85 (by decide +kernel) rfl, Or.inl rfl, tyX5_ok, nmX5, rfl, by decide +kernel, (fun _ => rfl)⟩
set_option maxRecDepth 100000 in
theorem fX5_25 : FPW RX5 25 5 6 8 true (.array .int) true := ⟨RX5, TX5, "HungryBench$Matches", tyX5, rfl, by decide, by decide +kernel, by decide, igX5, lwg_t2 86 (by decide +kernel) rfl, Or.inl rfl, tyX5_ok, nmX5, rfl, by decide +kernel, (fun _ => rfl)⟩
set_option maxRecDepth 100000 in
theorem fX11_335 : FP RX11 335 5 6 8 true := ⟨RX5, TX5, "HungryBench$Matches", rfl, by decide, by decide +kernel, by decide, igX5, lwg_t2 87 (by decide +kernel) rfl, Or.inl rfl⟩
set_option maxRecDepth 100000 in
theorem fX5_28 : FPW RX5 28 5 7 8 false (.int) false := ⟨RX5, TX5, "HungryBench$Matches", tyX5, rfl, by decide, by decide +kernel, by decide, igX5, lwg_t2 88 (by decide +kernel) rfl, Or.inl rfl, tyX5_ok, nmX5, rfl, by decide +kernel, (fun e => nomatch e)⟩
set_option maxRecDepth 100000 in
theorem fX11_332 : FPW RX11 332 5 7 8 false (.int) false := ⟨RX5, TX5, "HungryBench$Matches", tyX5, rfl, by decide, by decide +kernel, by decide, igX5, lwg_t2 89 (by decide +kernel) rfl, Or.inl rfl, tyX5_ok, nmX5, rfl, by decide +kernel, (fun e => nomatch e)⟩
set_option maxRecDepth 100000 in
theorem fX6_11 : FPW RX6 11 6 0 3 true (.array (.object "HungryBench$Town")) true := ⟨RX6, TX6, "HungryBench$Past", tyX6, rfl, by decide, by decide +kernel, by decide, igX6, lwg_t2 117 (by decide +kernel) rfl, Or.inl rfl, tyX6_ok, nmX6, rfl, by decide +kernel, (fun _ => rfl)⟩
set_option maxRecDepth 100000 in
theorem fX6_15 : FPW RX6 15 6 1 3 false (.int) false := ⟨RX6, TX6, "HungryBench$Past", tyX6, rfl, by decide, by decide +kernel, by decide, igX6, lwg_t2 118 (by decide +kernel) rfl, Or.inl rfl, tyX6_ok, nmX6, rfl, by decide +kernel, (fun e => nomatch e)⟩
set_option maxRecDepth 100000 in
theorem fX6_19 : FPW RX6 19 6 2 3 false (.int) false := ⟨RX6, TX6, "HungryBench$Past", tyX6, rfl, by decide, by decide +kernel, by decide, igX6, lwg_t2 119 (by decide +kernel) rfl, Or.inl rfl, tyX6_ok, nmX6, rfl, by decide +kernel, (fun e => nomatch e)⟩
set_option maxRecDepth 100000 in
theorem fX11_385 : FPW RX11 385 6 2 3 false (.int) false := ⟨RX6, TX6, "HungryBench$Past", tyX6, rfl, by decide, by decide +kernel, by decide, igX6, lwg_t2 120 (by decide +kernel) rfl, Or.inl rfl, tyX6_ok, nmX6, rfl, by decide +kernel, (fun e => nomatch e)⟩
set_option maxRecDepth 100000 in
theorem fX11_12 : FPW RX11 12 10 0 16 true (.object "HungryBench$Tape") true := ⟨RX11, TX11, "HungryBench", tyX11, rfl, by decide, by decide +kernel, by decide, igX11, lwg_t2 128 (by decide +kernel) rfl, Or.inl rfl, tyX11_ok, nmX11, rfl, by decide +kernel, (fun _ => rfl)⟩
set_option maxRecDepth 100000 in
theorem fX11_19 : FPW RX11 19 10 1 16 true (.object "HungryBench$Town") true := ⟨RX11, TX11, "HungryBench", tyX11, rfl, by decide, by decide +kernel, by decide, igX11, lwg_t2 129 (by decide +kernel) rfl, Or.inl rfl, tyX11_ok, nmX11, rfl, by decide +kernel, (fun _ => rfl)⟩
set_option maxRecDepth 100000 in
theorem fX11_23 : FPW RX11 23 10 2 16 true (.object "HungryBench$Town") true := ⟨RX11, TX11, "HungryBench", tyX11, rfl, by decide, by decide +kernel, by decide, igX11, lwg_t2 130 (by decide +kernel) rfl, Or.inl rfl, tyX11_ok, nmX11, rfl, by decide +kernel, (fun _ => rfl)⟩
set_option maxRecDepth 100000 in
theorem fX11_26 : FPW RX11 26 10 3 16 true (.object "HungryBench$Town") true := ⟨RX11, TX11, "HungryBench", tyX11, rfl, by decide, by decide +kernel, by decide, igX11, lwg_t2 131 (by decide +kernel) rfl, Or.inl rfl, tyX11_ok, nmX11, rfl, by decide +kernel, (fun _ => rfl)⟩
set_option maxRecDepth 100000 in
theorem fX11_32 : FPW RX11 32 10 4 16 true (.object "HungryBench$Law") true := ⟨RX11, TX11, "HungryBench", tyX11, rfl, by decide, by decide +kernel, by decide, igX11, lwg_t2 132 (by decide +kernel) rfl, Or.inl rfl, tyX11_ok, nmX11, rfl, by decide +kernel, (fun _ => rfl)⟩
set_option maxRecDepth 100000 in
theorem fX11_36 : FPW RX11 36 10 5 16 true (.object "HungryBench$Law") true := ⟨RX11, TX11, "HungryBench", tyX11, rfl, by decide, by decide +kernel, by decide, igX11, lwg_t2 133 (by decide +kernel) rfl, Or.inl rfl, tyX11_ok, nmX11, rfl, by decide +kernel, (fun _ => rfl)⟩
set_option maxRecDepth 100000 in
theorem fX11_39 : FPW RX11 39 10 6 16 true (.object "HungryBench$Law") true := ⟨RX11, TX11, "HungryBench", tyX11, rfl, by decide, by decide +kernel, by decide, igX11, lwg_t2 134 (by decide +kernel) rfl, Or.inl rfl, tyX11_ok, nmX11, rfl, by decide +kernel, (fun _ => rfl)⟩
set_option maxRecDepth 100000 in
theorem fX11_47 : FPW RX11 47 10 7 16 true (.object "HungryBench$AssizeText") true := ⟨RX11, TX11, "HungryBench", tyX11, rfl, by decide, by decide +kernel, by decide, igX11, lwg_t2 135 (by decide +kernel) rfl, Or.inl rfl, tyX11_ok, nmX11, rfl, by decide +kernel, (fun _ => rfl)⟩
set_option maxRecDepth 100000 in
theorem fX11_56 : FPW RX11 56 10 8 16 true (.object "HungryBench$LawText") true := ⟨RX11, TX11, "HungryBench", tyX11, rfl, by decide, by decide +kernel, by decide, igX11, lwg_t2 136 (by decide +kernel) rfl, Or.inl rfl, tyX11_ok, nmX11, rfl, by decide +kernel, (fun _ => rfl)⟩
set_option maxRecDepth 100000 in
theorem fX11_65 : FPW RX11 65 10 9 16 true (.object "HungryBench$Court") true := ⟨RX11, TX11, "HungryBench", tyX11, rfl, by decide, by decide +kernel, by decide, igX11, lwg_t2 137 (by decide +kernel) rfl, Or.inl rfl, tyX11_ok, nmX11, rfl, by decide +kernel, (fun _ => rfl)⟩
set_option maxRecDepth 100000 in
theorem fX11_74 : FPW RX11 74 10 10 16 true (.object "HungryBench$Sitting") true := ⟨RX11, TX11, "HungryBench", tyX11, rfl, by decide, by decide +kernel, by decide, igX11, lwg_t2 138 (by decide +kernel) rfl, Or.inl rfl, tyX11_ok, nmX11, rfl, by decide +kernel, (fun _ => rfl)⟩
set_option maxRecDepth 100000 in
theorem fX11_78 : FPW RX11 78 10 11 16 true (.object "HungryBench$Sitting") true := ⟨RX11, TX11, "HungryBench", tyX11, rfl, by decide, by decide +kernel, by decide, igX11, lwg_t2 139 (by decide +kernel) rfl, Or.inl rfl, tyX11_ok, nmX11, rfl, by decide +kernel, (fun _ => rfl)⟩
set_option maxRecDepth 100000 in
theorem fX11_84 : FPW RX11 84 10 12 16 true (.object "HungryBench$Matches") true := ⟨RX11, TX11, "HungryBench", tyX11, rfl, by decide, by decide +kernel, by decide, igX11, lwg_t2 140 (by decide +kernel) rfl, Or.inl rfl, tyX11_ok, nmX11, rfl, by decide +kernel, (fun _ => rfl)⟩
set_option maxRecDepth 100000 in
theorem fX11_91 : FPW RX11 91 10 13 16 true (.object "HungryBench$Past") true := ⟨RX11, TX11, "HungryBench", tyX11, rfl, by decide, by decide +kernel, by decide, igX11, lwg_t2 141 (by decide +kernel) rfl, Or.inl rfl, tyX11_ok, nmX11, rfl, by decide +kernel, (fun _ => rfl)⟩
set_option maxRecDepth 100000 in
theorem fX11_95 : FPW RX11 95 10 14 16 false (.boolean) false := ⟨RX11, TX11, "HungryBench", tyX11, rfl, by decide, by decide +kernel, by decide, igX11, lwg_t2 142 (by decide +kernel) rfl, Or.inl rfl, tyX11_ok, nmX11, rfl, by decide +kernel, (fun e => nomatch e)⟩
set_option maxRecDepth 100000 in
theorem fX11_99 : FPW RX11 99 10 15 16 false (.int) false := ⟨RX11, TX11, "HungryBench", tyX11, rfl, by decide, by decide +kernel, by decide, igX11, lwg_t2 143 (by decide +kernel) rfl, Or.inl rfl, tyX11_ok, nmX11, rfl, by decide +kernel, (fun e => nomatch e)⟩
set_option maxRecDepth 100000 in
theorem fX12_3 : FPW RX12 3 11 0 31 false (.int) false := ⟨RX12, TX12, "HungryBenchModel", tyX12, rfl, by decide, by decide +kernel, by decide, igX12, lwg_t6 218 (by decide +kernel) rfl, Or.inl rfl, tyX12_ok, nmX12, rfl, by decide +kernel, (fun e => nomatch e)⟩
set_option maxRecDepth 100000 in
theorem fX12_13 : FPW RX12 13 11 1 31 true (.array .int) true := ⟨RX12, TX12, "HungryBenchModel", tyX12, rfl, by decide, by decide +kernel, by decide, igX12, lwg_t6 219 (by decide +kernel) rfl, Or.inl rfl, tyX12_ok, nmX12, rfl, by decide +kernel, (fun _ => rfl)⟩
set_option maxRecDepth 100000 in
theorem fX12_17 : FPW RX12 17 11 2 31 true (.array .int) true := ⟨RX12, TX12, "HungryBenchModel", tyX12, rfl, by decide, by decide +kernel, by decide, igX12, lwg_t6 220 (by decide +kernel) rfl, Or.inl rfl, tyX12_ok, nmX12, rfl, by decide +kernel, (fun _ => rfl)⟩
set_option maxRecDepth 100000 in
theorem fX12_20 : FPW RX12 20 11 3 31 true (.array .int) true := ⟨RX12, TX12, "HungryBenchModel", tyX12, rfl, by decide, by decide +kernel, by decide, igX12, lwg_t6 221 (by decide +kernel) rfl, Or.inl rfl, tyX12_ok, nmX12, rfl, by decide +kernel, (fun _ => rfl)⟩
set_option maxRecDepth 100000 in
theorem fX12_23 : FPW RX12 23 11 4 31 true (.array .int) true := ⟨RX12, TX12, "HungryBenchModel", tyX12, rfl, by decide, by decide +kernel, by decide, igX12, lwg_t6 222 (by decide +kernel) rfl, Or.inl rfl, tyX12_ok, nmX12, rfl, by decide +kernel, (fun _ => rfl)⟩
set_option maxRecDepth 100000 in
theorem fX12_26 : FPW RX12 26 11 5 31 true (.array .int) true := ⟨RX12, TX12, "HungryBenchModel", tyX12, rfl, by decide, by decide +kernel, by decide, igX12, lwg_t6 223 (by decide +kernel) rfl, Or.inl rfl, tyX12_ok, nmX12, rfl, by decide +kernel, (fun _ => rfl)⟩
set_option maxRecDepth 100000 in
theorem fX12_73 : FPW RX12 73 11 6 31 false (.boolean) false := ⟨RX12, TX12, "HungryBenchModel", tyX12, rfl, by decide, by decide +kernel, by decide, igX12, lwg_t6 224 (by decide +kernel) rfl, Or.inl rfl, tyX12_ok, nmX12, rfl, by decide +kernel, (fun e => nomatch e)⟩
set_option maxRecDepth 100000 in
theorem fX12_77 : FPW RX12 77 11 7 31 false (.int) false := ⟨RX12, TX12, "HungryBenchModel", tyX12, rfl, by decide, by decide +kernel, by decide, igX12, lwg_t6 225 (by decide +kernel) rfl, Or.inl rfl, tyX12_ok, nmX12, rfl, by decide +kernel, (fun e => nomatch e)⟩
set_option maxRecDepth 100000 in
theorem fX12_29 : FPW RX12 29 11 8 31 true (.array .byte) true := ⟨RX12, TX12, "HungryBenchModel", tyX12, rfl, by decide, by decide +kernel, by decide, igX12, lwg_t6 226 (by decide +kernel) rfl, Or.inl rfl, tyX12_ok, nmX12, rfl, by decide +kernel, (fun _ => rfl)⟩
set_option maxRecDepth 100000 in
theorem fX12_106 : FPW RX12 106 11 9 31 false (.int) false := ⟨RX12, TX12, "HungryBenchModel", tyX12, rfl, by decide, by decide +kernel, by decide, igX12, lwg_t6 227 (by decide +kernel) rfl, Or.inl rfl, tyX12_ok, nmX12, rfl, by decide +kernel, (fun e => nomatch e)⟩
set_option maxRecDepth 100000 in
theorem fX12_109 : FPW RX12 109 11 10 31 false (.int) false := ⟨RX12, TX12, "HungryBenchModel", tyX12, rfl, by decide, by decide +kernel, by decide, igX12, lwg_t6 228 (by decide +kernel) rfl, Or.inl rfl, tyX12_ok, nmX12, rfl, by decide +kernel, (fun e => nomatch e)⟩
set_option maxRecDepth 100000 in
theorem fX12_112 : FPW RX12 112 11 11 31 false (.int) false := ⟨RX12, TX12, "HungryBenchModel", tyX12, rfl, by decide, by decide +kernel, by decide, igX12, lwg_t6 229 (by decide +kernel) rfl, Or.inl rfl, tyX12_ok, nmX12, rfl, by decide +kernel, (fun e => nomatch e)⟩
set_option maxRecDepth 100000 in
theorem fX12_119 : FPW RX12 119 11 12 31 false (.int) false := ⟨RX12, TX12, "HungryBenchModel", tyX12, rfl, by decide, by decide +kernel, by decide, igX12, lwg_t6 230 (by decide +kernel) rfl, Or.inl rfl, tyX12_ok, nmX12, rfl, by decide +kernel, (fun e => nomatch e)⟩
set_option maxRecDepth 100000 in
theorem fX12_225 : FPW RX12 225 11 13 31 false (.int) false := ⟨RX12, TX12, "HungryBenchModel", tyX12, rfl, by decide, by decide +kernel, by decide, igX12, lwg_t6 231 (by decide +kernel) rfl, Or.inl rfl, tyX12_ok, nmX12, rfl, by decide +kernel, (fun e => nomatch e)⟩
set_option maxRecDepth 100000 in
theorem fX12_33 : FPW RX12 33 11 14 31 false (.int) false := ⟨RX12, TX12, "HungryBenchModel", tyX12, rfl, by decide, by decide +kernel, by decide, igX12, lwg_t6 232 (by decide +kernel) rfl, Or.inl rfl, tyX12_ok, nmX12, rfl, by decide +kernel, (fun e => nomatch e)⟩
set_option maxRecDepth 100000 in
theorem fX12_36 : FPW RX12 36 11 15 31 true (.array .int) true := ⟨RX12, TX12, "HungryBenchModel", tyX12, rfl, by decide, by decide +kernel, by decide, igX12, lwg_t6 233 (by decide +kernel) rfl, Or.inl rfl, tyX12_ok, nmX12, rfl, by decide +kernel, (fun _ => rfl)⟩
set_option maxRecDepth 100000 in
theorem fX12_200 : FPW RX12 200 11 16 31 false (.int) false := ⟨RX12, TX12, "HungryBenchModel", tyX12, rfl, by decide, by decide +kernel, by decide, igX12, lwg_t6 234 (by decide +kernel) rfl, Or.inl rfl, tyX12_ok, nmX12, rfl, by decide +kernel, (fun e => nomatch e)⟩
set_option maxRecDepth 100000 in
theorem fX12_39 : FPW RX12 39 11 17 31 true (.array .int) true := ⟨RX12, TX12, "HungryBenchModel", tyX12, rfl, by decide, by decide +kernel, by decide, igX12, lwg_t6 235 (by decide +kernel) rfl, Or.inl rfl, tyX12_ok, nmX12, rfl, by decide +kernel, (fun _ => rfl)⟩
set_option maxRecDepth 100000 in
theorem fX12_286 : FPW RX12 286 11 18 31 false (.int) false := ⟨RX12, TX12, "HungryBenchModel", tyX12, rfl, by decide, by decide +kernel, by decide, igX12, lwg_t6 236 (by decide +kernel) rfl, Or.inl rfl, tyX12_ok, nmX12, rfl, by decide +kernel, (fun e => nomatch e)⟩
set_option maxRecDepth 100000 in
theorem fX12_277 : FPW RX12 277 11 19 31 false (.int) false := ⟨RX12, TX12, "HungryBenchModel", tyX12, rfl, by decide, by decide +kernel, by decide, igX12, lwg_t6 237 (by decide +kernel) rfl, Or.inl rfl, tyX12_ok, nmX12, rfl, by decide +kernel, (fun e => nomatch e)⟩
set_option maxRecDepth 100000 in
theorem fX12_283 : FPW RX12 283 11 20 31 false (.int) false := ⟨RX12, TX12, "HungryBenchModel", tyX12, rfl, by decide, by decide +kernel, by decide, igX12, lwg_t6 238 (by decide +kernel) rfl, Or.inl rfl, tyX12_ok, nmX12, rfl, by decide +kernel, (fun e => nomatch e)⟩
set_option maxRecDepth 100000 in
theorem fX12_42 : FPW RX12 42 11 21 31 true (.array .int) true := ⟨RX12, TX12, "HungryBenchModel", tyX12, rfl, by decide, by decide +kernel, by decide, igX12, lwg_t6 239 (by decide +kernel) rfl, Or.inl rfl, tyX12_ok, nmX12, rfl, by decide +kernel, (fun _ => rfl)⟩
set_option maxRecDepth 100000 in
theorem fX12_45 : FPW RX12 45 11 22 31 true (.array .int) true := ⟨RX12, TX12, "HungryBenchModel", tyX12, rfl, by decide, by decide +kernel, by decide, igX12, lwg_t7 0 (by decide +kernel) rfl, Or.inl rfl, tyX12_ok, nmX12, rfl, by decide +kernel, (fun _ => rfl)⟩
set_option maxRecDepth 100000 in
theorem fX12_48 : FPW RX12 48 11 23 31 true (.array .int) true := ⟨RX12, TX12, "HungryBenchModel", tyX12, rfl, by decide, by decide +kernel, by decide, igX12, lwg_t7 1 (by decide +kernel) rfl, Or.inl rfl, tyX12_ok, nmX12, rfl, by decide +kernel, (fun _ => rfl)⟩
set_option maxRecDepth 100000 in
theorem fX12_51 : FPW RX12 51 11 24 31 true (.array .boolean) true := ⟨RX12, TX12, "HungryBenchModel", tyX12, rfl, by decide, by decide +kernel, by decide, igX12, lwg_t7 2 (by decide +kernel) rfl, Or.inl rfl, tyX12_ok, nmX12, rfl, by decide +kernel, (fun _ => rfl)⟩
set_option maxRecDepth 100000 in
theorem fX12_55 : FPW RX12 55 11 25 31 true (.array .boolean) true := ⟨RX12, TX12, "HungryBenchModel", tyX12, rfl, by decide, by decide +kernel, by decide, igX12, lwg_t7 3 (by decide +kernel) rfl, Or.inl rfl, tyX12_ok, nmX12, rfl, by decide +kernel, (fun _ => rfl)⟩
set_option maxRecDepth 100000 in
theorem fX12_58 : FPW RX12 58 11 26 31 true (.array .int) true := ⟨RX12, TX12, "HungryBenchModel", tyX12, rfl, by decide, by decide +kernel, by decide, igX12, lwg_t7 4 (by decide +kernel) rfl, Or.inl rfl, tyX12_ok, nmX12, rfl, by decide +kernel, (fun _ => rfl)⟩
set_option maxRecDepth 100000 in
theorem fX12_61 : FPW RX12 61 11 27 31 true (.array .int) true := ⟨RX12, TX12, "HungryBenchModel", tyX12, rfl, by decide, by decide +kernel, by decide, igX12, lwg_t7 5 (by decide +kernel) rfl, Or.inl rfl, tyX12_ok, nmX12, rfl, by decide +kernel, (fun _ => rfl)⟩
set_option maxRecDepth 100000 in
theorem fX12_64 : FPW RX12 64 11 28 31 true (.array .int) true := ⟨RX12, TX12, "HungryBenchModel", tyX12, rfl, by decide, by decide +kernel, by decide, igX12, lwg_t7 6 (by decide +kernel) rfl, Or.inl rfl, tyX12_ok, nmX12, rfl, by decide +kernel, (fun _ => rfl)⟩
set_option maxRecDepth 100000 in
theorem fX12_67 : FPW RX12 67 11 29 31 true (.array .int) true := ⟨RX12, TX12, "HungryBenchModel", tyX12, rfl, by decide, by decide +kernel, by decide, igX12, lwg_t7 7 (by decide +kernel) rfl, Or.inl rfl, tyX12_ok, nmX12, rfl, by decide +kernel, (fun _ => rfl)⟩
set_option maxRecDepth 100000 in
theorem fX12_70 : FPW RX12 70 11 30 31 true (.array .int) true := ⟨RX12, TX12, "HungryBenchModel", tyX12, rfl, by decide, by decide +kernel, by decide, igX12, lwg_t7 8 (by decide +kernel) rfl, Or.inl rfl, tyX12_ok, nmX12, rfl, by decide +kernel, (fun _ => rfl)⟩
set_option maxRecDepth 100000 in
theorem kX11_3 : Cond.methodLink RX11 3 ⟨"java/lang/Object", "<init>", "()V"⟩ ∈ lwg := lwg_t1 36 (by decide +kernel) rfl
set_option maxRecDepth 100000 in
theorem mcX8_init : MC mX8_init 0 := ⟨lwg_t1 43 (by decide +kernel) rfl, lwg_t1 2 (by decide +kernel) rfl, by decide +kernel, by decide +kernel, by decide⟩
set_option maxRecDepth 100000 in
theorem kX11_11 : MN RX11 11 mX8_init 0 := ⟨"HungryBench", lwg_t1 41 (by decide +kernel) rfl, mcX8_init, lwg_t1 42 (by decide +kernel) rfl, rfl, rfl⟩
set_option maxRecDepth 100000 in
theorem mcX10_init : MC mX10_init 0 := ⟨lwg_t1 72 (by decide +kernel) rfl, lwg_t1 3 (by decide +kernel) rfl, by decide +kernel, by decide +kernel, by decide⟩
set_option maxRecDepth 100000 in
theorem kX11_18 : MI RX11 18 mX10_init 0 := ⟨lwg_t1 70 (by decide +kernel) rfl, mcX10_init, lwg_t1 71 (by decide +kernel) rfl, rfl, rfl⟩
set_option maxRecDepth 100000 in
theorem mcX2_init : MC mX2_init 0 := ⟨lwg_t1 222 (by decide +kernel) rfl, lwg_t1 6 (by decide +kernel) rfl, by decide +kernel, by decide +kernel, by decide⟩
set_option maxRecDepth 100000 in
theorem kX11_31 : MN RX11 31 mX2_init 0 := ⟨"HungryBench", lwg_t1 220 (by decide +kernel) rfl, mcX2_init, lwg_t1 221 (by decide +kernel) rfl, rfl, rfl⟩
set_option maxRecDepth 100000 in
theorem mcX0_init : MC mX0_init 2 := ⟨lwg_t2 11 (by decide +kernel) rfl, lwg_t1 8 (by decide +kernel) rfl, by decide +kernel, by decide +kernel, by decide⟩
set_option maxRecDepth 100000 in
theorem kX11_44 : MI RX11 44 mX0_init 2 := ⟨lwg_t2 9 (by decide +kernel) rfl, mcX0_init, lwg_t2 10 (by decide +kernel) rfl, rfl, rfl⟩
set_option maxRecDepth 100000 in
theorem mcX3_init : MC mX3_init 2 := ⟨lwg_t2 34 (by decide +kernel) rfl, lwg_t1 9 (by decide +kernel) rfl, by decide +kernel, by decide +kernel, by decide⟩
set_option maxRecDepth 100000 in
theorem kX11_53 : MI RX11 53 mX3_init 2 := ⟨lwg_t2 32 (by decide +kernel) rfl, mcX3_init, lwg_t2 33 (by decide +kernel) rfl, rfl, rfl⟩
set_option maxRecDepth 100000 in
theorem mcX1_init : MC mX1_init 2 := ⟨lwg_t2 46 (by decide +kernel) rfl, lwg_t1 10 (by decide +kernel) rfl, by decide +kernel, by decide +kernel, by decide⟩
set_option maxRecDepth 100000 in
theorem kX11_62 : MI RX11 62 mX1_init 2 := ⟨lwg_t2 44 (by decide +kernel) rfl, mcX1_init, lwg_t2 45 (by decide +kernel) rfl, rfl, rfl⟩
set_option maxRecDepth 100000 in
theorem mcX7_init : MC mX7_init 2 := ⟨lwg_t2 62 (by decide +kernel) rfl, lwg_t1 11 (by decide +kernel) rfl, by decide +kernel, by decide +kernel, by decide⟩
set_option maxRecDepth 100000 in
theorem kX11_71 : MI RX11 71 mX7_init 2 := ⟨lwg_t2 60 (by decide +kernel) rfl, mcX7_init, lwg_t2 61 (by decide +kernel) rfl, rfl, rfl⟩
set_option maxRecDepth 100000 in
theorem mcX5_init : MC mX5_init 2 := ⟨lwg_t2 78 (by decide +kernel) rfl, lwg_t1 12 (by decide +kernel) rfl, by decide +kernel, by decide +kernel, by decide⟩
set_option maxRecDepth 100000 in
theorem kX11_83 : MI RX11 83 mX5_init 2 := ⟨lwg_t2 76 (by decide +kernel) rfl, mcX5_init, lwg_t2 77 (by decide +kernel) rfl, rfl, rfl⟩
set_option maxRecDepth 100000 in
theorem mcX6_init : MC mX6_init 0 := ⟨lwg_t2 112 (by decide +kernel) rfl, lwg_t1 13 (by decide +kernel) rfl, by decide +kernel, by decide +kernel, by decide⟩
set_option maxRecDepth 100000 in
theorem kX11_90 : MI RX11 90 mX6_init 0 := ⟨lwg_t2 110 (by decide +kernel) rfl, mcX6_init, lwg_t2 111 (by decide +kernel) rfl, rfl, rfl⟩
set_option maxRecDepth 100000 in
theorem mcX8_put : MC mX8_put 1 := ⟨lwg_t2 184 (by decide +kernel) rfl, lwg_t1 2 (by decide +kernel) rfl, by decide +kernel, by decide +kernel, by decide⟩
set_option maxRecDepth 100000 in
theorem kX11_106 : MV RX11 106 mX8_put 8 1 6 := ⟨RX8, TX8, rfl, by decide, lwg_t2 181 (by decide +kernel) rfl, mcX8_put, lwg_t2 182 (by decide +kernel) rfl, lwg_t2 183 (by decide +kernel) rfl⟩
set_option maxRecDepth 100000 in
theorem mcX10_copyFrom : MC mX10_copyFrom 1 := ⟨lwg_t3 108 (by decide +kernel) rfl, lwg_t1 3 (by decide +kernel) rfl, by decide +kernel, by decide +kernel, by decide⟩
set_option maxRecDepth 100000 in
theorem kX11_110 : MV RX11 110 mX10_copyFrom 9 1 20 := ⟨RX10, TX10, rfl, by decide, lwg_t3 121 (by decide +kernel) rfl, mcX10_copyFrom, lwg_t3 106 (by decide +kernel) rfl, lwg_t3 107 (by decide +kernel) rfl⟩
set_option maxRecDepth 100000 in
theorem mcX9_readAll : MC mX9_readAll 0 := ⟨lwg_t3 162 (by decide +kernel) rfl, lwg_t1 7 (by decide +kernel) rfl, by decide +kernel, by decide +kernel, by decide⟩
set_option maxRecDepth 100000 in
theorem kX11_114_0 : MU RX11 114 mX9_readAll 0 0 3 := ⟨RX0, TX0, ⟨"HungryBench$AssizeText", "readAll", "()Z"⟩, "HungryBench$Text", rfl, by decide, lwg_t3 157 (by decide +kernel) rfl, mcX9_readAll, lwg_t3 161 (by decide +kernel) rfl, lwg_t3 160 (by decide +kernel) rfl, lwg_t3 158 (by decide +kernel) rfl, by decide +kernel, rfl, Or.inl ⟨lwg_t3 161 (by decide +kernel) rfl, cX9_readAll, 2, some (.boolean), lwg_t3 162 (by decide +kernel) rfl⟩⟩
set_option maxRecDepth 100000 in
theorem mcX6_forget : MC mX6_forget 0 := ⟨lwg_t3 134 (by decide +kernel) rfl, lwg_t1 13 (by decide +kernel) rfl, by decide +kernel, by decide +kernel, by decide⟩
set_option maxRecDepth 100000 in
theorem kX11_130 : MV RX11 130 mX6_forget 6 0 3 := ⟨RX6, TX6, rfl, by decide, lwg_t3 131 (by decide +kernel) rfl, mcX6_forget, lwg_t3 132 (by decide +kernel) rfl, lwg_t3 133 (by decide +kernel) rfl⟩
set_option maxRecDepth 100000 in
theorem mcX2_clear : MC mX2_clear 0 := ⟨lwg_t4 190 (by decide +kernel) rfl, lwg_t1 6 (by decide +kernel) rfl, by decide +kernel, by decide +kernel, by decide⟩
set_option maxRecDepth 100000 in
theorem kX11_133 : MV RX11 133 mX2_clear 2 0 7 := ⟨RX2, TX2, rfl, by decide, lwg_t4 187 (by decide +kernel) rfl, mcX2_clear, lwg_t4 188 (by decide +kernel) rfl, lwg_t4 189 (by decide +kernel) rfl⟩
set_option maxRecDepth 100000 in
theorem kX11_136_3 : MU RX11 136 mX9_readAll 3 0 3 := ⟨RX3, TX3, ⟨"HungryBench$LawText", "readAll", "()Z"⟩, "HungryBench$Text", rfl, by decide, lwg_t4 191 (by decide +kernel) rfl, mcX9_readAll, lwg_t3 161 (by decide +kernel) rfl, lwg_t4 193 (by decide +kernel) rfl, lwg_t4 192 (by decide +kernel) rfl, by decide +kernel, rfl, Or.inl ⟨lwg_t3 161 (by decide +kernel) rfl, cX9_readAll, 2, some (.boolean), lwg_t3 162 (by decide +kernel) rfl⟩⟩
set_option maxRecDepth 100000 in
theorem mcX2_copyFrom : MC mX2_copyFrom 1 := ⟨lwg_t3 125 (by decide +kernel) rfl, lwg_t1 6 (by decide +kernel) rfl, by decide +kernel, by decide +kernel, by decide⟩
set_option maxRecDepth 100000 in
theorem kX11_137 : MV RX11 137 mX2_copyFrom 2 1 7 := ⟨RX2, TX2, rfl, by decide, lwg_t3 122 (by decide +kernel) rfl, mcX2_copyFrom, lwg_t3 123 (by decide +kernel) rfl, lwg_t3 124 (by decide +kernel) rfl⟩
set_option maxRecDepth 100000 in
theorem mcX11_needJudge : MC mX11_needJudge 1 := ⟨lwg_t4 206 (by decide +kernel) rfl, lwg_t1 1 (by decide +kernel) rfl, by decide +kernel, by decide +kernel, by decide⟩
set_option maxRecDepth 100000 in
theorem kX11_143 : MV RX11 143 mX11_needJudge 10 1 16 := ⟨RX11, TX11, rfl, by decide, lwg_t4 203 (by decide +kernel) rfl, mcX11_needJudge, lwg_t4 205 (by decide +kernel) rfl, lwg_t0 4 (by decide +kernel) rfl⟩
set_option maxRecDepth 100000 in
theorem mcX10_waitingAt : MC mX10_waitingAt 2 := ⟨lwg_t4 225 (by decide +kernel) rfl, lwg_t1 3 (by decide +kernel) rfl, by decide +kernel, by decide +kernel, by decide⟩
set_option maxRecDepth 100000 in
theorem kX11_162 : MV RX11 162 mX10_waitingAt 9 2 20 := ⟨RX10, TX10, rfl, by decide, lwg_t4 222 (by decide +kernel) rfl, mcX10_waitingAt, lwg_t4 223 (by decide +kernel) rfl, lwg_t4 224 (by decide +kernel) rfl⟩
set_option maxRecDepth 100000 in
theorem mcX1_crumbsOf : MC mX1_crumbsOf 2 := ⟨lwg_t4 233 (by decide +kernel) rfl, lwg_t1 10 (by decide +kernel) rfl, by decide +kernel, by decide +kernel, by decide⟩
set_option maxRecDepth 100000 in
theorem kX11_166 : MV RX11 166 mX1_crumbsOf 1 2 3 := ⟨RX1, TX1, rfl, by decide, lwg_t4 230 (by decide +kernel) rfl, mcX1_crumbsOf, lwg_t4 231 (by decide +kernel) rfl, lwg_t4 232 (by decide +kernel) rfl⟩
set_option maxRecDepth 100000 in
theorem mcX1_harshness : MC mX1_harshness 1 := ⟨lwg_t4 237 (by decide +kernel) rfl, lwg_t1 10 (by decide +kernel) rfl, by decide +kernel, by decide +kernel, by decide⟩
set_option maxRecDepth 100000 in
theorem kX11_169 : MV RX11 169 mX1_harshness 1 1 3 := ⟨RX1, TX1, rfl, by decide, lwg_t4 234 (by decide +kernel) rfl, mcX1_harshness, lwg_t4 235 (by decide +kernel) rfl, lwg_t4 236 (by decide +kernel) rfl⟩
set_option maxRecDepth 100000 in
theorem mcX10_shareOf : MC mX10_shareOf 1 := ⟨lwg_t5 1 (by decide +kernel) rfl, lwg_t1 3 (by decide +kernel) rfl, by decide +kernel, by decide +kernel, by decide⟩
set_option maxRecDepth 100000 in
theorem kX11_173 : MV RX11 173 mX10_shareOf 9 1 20 := ⟨RX10, TX10, rfl, by decide, lwg_t4 238 (by decide +kernel) rfl, mcX10_shareOf, lwg_t4 239 (by decide +kernel) rfl, lwg_t5 0 (by decide +kernel) rfl⟩
set_option maxRecDepth 100000 in
theorem mcX10_freeHours : MC mX10_freeHours 1 := ⟨lwg_t5 5 (by decide +kernel) rfl, lwg_t1 3 (by decide +kernel) rfl, by decide +kernel, by decide +kernel, by decide⟩
set_option maxRecDepth 100000 in
theorem kX11_176 : MV RX11 176 mX10_freeHours 9 1 20 := ⟨RX10, TX10, rfl, by decide, lwg_t5 2 (by decide +kernel) rfl, mcX10_freeHours, lwg_t5 3 (by decide +kernel) rfl, lwg_t5 4 (by decide +kernel) rfl⟩
set_option maxRecDepth 100000 in
theorem mcX5_circuitOf : MC mX5_circuitOf 1 := ⟨lwg_t5 9 (by decide +kernel) rfl, lwg_t1 12 (by decide +kernel) rfl, by decide +kernel, by decide +kernel, by decide⟩
set_option maxRecDepth 100000 in
theorem kX11_179 : MV RX11 179 mX5_circuitOf 5 1 8 := ⟨RX5, TX5, rfl, by decide, lwg_t5 6 (by decide +kernel) rfl, mcX5_circuitOf, lwg_t5 7 (by decide +kernel) rfl, lwg_t5 8 (by decide +kernel) rfl⟩
set_option maxRecDepth 100000 in
theorem mcX11_needCase : MC mX11_needCase 1 := ⟨lwg_t5 47 (by decide +kernel) rfl, lwg_t1 1 (by decide +kernel) rfl, by decide +kernel, by decide +kernel, by decide⟩
set_option maxRecDepth 100000 in
theorem kX11_185 : MV RX11 185 mX11_needCase 10 1 16 := ⟨RX11, TX11, rfl, by decide, lwg_t5 44 (by decide +kernel) rfl, mcX11_needCase, lwg_t5 46 (by decide +kernel) rfl, lwg_t0 5 (by decide +kernel) rfl⟩
set_option maxRecDepth 100000 in
theorem mcX10_placeOf : MC mX10_placeOf 1 := ⟨lwg_t4 59 (by decide +kernel) rfl, lwg_t1 3 (by decide +kernel) rfl, by decide +kernel, by decide +kernel, by decide⟩
set_option maxRecDepth 100000 in
theorem kX11_188 : MV RX11 188 mX10_placeOf 9 1 20 := ⟨RX10, TX10, rfl, by decide, lwg_t5 48 (by decide +kernel) rfl, mcX10_placeOf, lwg_t4 57 (by decide +kernel) rfl, lwg_t4 58 (by decide +kernel) rfl⟩
set_option maxRecDepth 100000 in
theorem mcX10_leaningOn : MC mX10_leaningOn 1 := ⟨lwg_t3 44 (by decide +kernel) rfl, lwg_t1 3 (by decide +kernel) rfl, by decide +kernel, by decide +kernel, by decide⟩
set_option maxRecDepth 100000 in
theorem kX11_212 : MV RX11 212 mX10_leaningOn 9 1 20 := ⟨RX10, TX10, rfl, by decide, lwg_t3 59 (by decide +kernel) rfl, mcX10_leaningOn, lwg_t3 42 (by decide +kernel) rfl, lwg_t3 43 (by decide +kernel) rfl⟩
set_option maxRecDepth 100000 in
theorem mcX1_benchFor : MC mX1_benchFor 1 := ⟨lwg_t5 52 (by decide +kernel) rfl, lwg_t1 10 (by decide +kernel) rfl, by decide +kernel, by decide +kernel, by decide⟩
set_option maxRecDepth 100000 in
theorem kX11_215 : MV RX11 215 mX1_benchFor 1 1 3 := ⟨RX1, TX1, rfl, by decide, lwg_t5 49 (by decide +kernel) rfl, mcX1_benchFor, lwg_t5 50 (by decide +kernel) rfl, lwg_t5 51 (by decide +kernel) rfl⟩
set_option maxRecDepth 100000 in
theorem mcX1_delayOf : MC mX1_delayOf 1 := ⟨lwg_t5 61 (by decide +kernel) rfl, lwg_t1 10 (by decide +kernel) rfl, by decide +kernel, by decide +kernel, by decide⟩
set_option maxRecDepth 100000 in
theorem kX11_218 : MV RX11 218 mX1_delayOf 1 1 3 := ⟨RX1, TX1, rfl, by decide, lwg_t5 58 (by decide +kernel) rfl, mcX1_delayOf, lwg_t5 59 (by decide +kernel) rfl, lwg_t5 60 (by decide +kernel) rfl⟩
set_option maxRecDepth 100000 in
theorem mcX5_shareJudge : MC mX5_shareJudge 1 := ⟨lwg_t5 66 (by decide +kernel) rfl, lwg_t1 12 (by decide +kernel) rfl, by decide +kernel, by decide +kernel, by decide⟩
set_option maxRecDepth 100000 in
theorem kX11_221 : MV RX11 221 mX5_shareJudge 5 1 8 := ⟨RX5, TX5, rfl, by decide, lwg_t5 63 (by decide +kernel) rfl, mcX5_shareJudge, lwg_t5 64 (by decide +kernel) rfl, lwg_t5 65 (by decide +kernel) rfl⟩
set_option maxRecDepth 100000 in
theorem mcX11_needHour : MC mX11_needHour 1 := ⟨lwg_t5 82 (by decide +kernel) rfl, lwg_t1 1 (by decide +kernel) rfl, by decide +kernel, by decide +kernel, by decide⟩
set_option maxRecDepth 100000 in
theorem kX11_224 : MV RX11 224 mX11_needHour 10 1 16 := ⟨RX11, TX11, rfl, by decide, lwg_t5 79 (by decide +kernel) rfl, mcX11_needHour, lwg_t5 81 (by decide +kernel) rfl, lwg_t0 6 (by decide +kernel) rfl⟩
set_option maxRecDepth 100000 in
theorem mcX10_caseAt : MC mX10_caseAt 2 := ⟨lwg_t4 229 (by decide +kernel) rfl, lwg_t1 3 (by decide +kernel) rfl, by decide +kernel, by decide +kernel, by decide⟩
set_option maxRecDepth 100000 in
theorem kX11_227 : MV RX11 227 mX10_caseAt 9 2 20 := ⟨RX10, TX10, rfl, by decide, lwg_t5 83 (by decide +kernel) rfl, mcX10_caseAt, lwg_t4 227 (by decide +kernel) rfl, lwg_t4 228 (by decide +kernel) rfl⟩
set_option maxRecDepth 100000 in
theorem mcX1_pointOf : MC mX1_pointOf 3 := ⟨lwg_t5 101 (by decide +kernel) rfl, lwg_t1 10 (by decide +kernel) rfl, by decide +kernel, by decide +kernel, by decide⟩
set_option maxRecDepth 100000 in
theorem kX11_233 : MV RX11 233 mX1_pointOf 1 3 3 := ⟨RX1, TX1, rfl, by decide, lwg_t5 98 (by decide +kernel) rfl, mcX1_pointOf, lwg_t5 99 (by decide +kernel) rfl, lwg_t5 100 (by decide +kernel) rfl⟩
set_option maxRecDepth 100000 in
theorem mcX1_wouldBe : MC mX1_wouldBe 3 := ⟨lwg_t2 204 (by decide +kernel) rfl, lwg_t1 10 (by decide +kernel) rfl, by decide +kernel, by decide +kernel, by decide⟩
set_option maxRecDepth 100000 in
theorem kX11_237 : MV RX11 237 mX1_wouldBe 1 3 3 := ⟨RX1, TX1, rfl, by decide, lwg_t5 109 (by decide +kernel) rfl, mcX1_wouldBe, lwg_t2 202 (by decide +kernel) rfl, lwg_t2 203 (by decide +kernel) rfl⟩
set_option maxRecDepth 100000 in
theorem mcX11_needNumber : MC mX11_needNumber 3 := ⟨lwg_t5 120 (by decide +kernel) rfl, lwg_t1 1 (by decide +kernel) rfl, by decide +kernel, by decide +kernel, by decide⟩
set_option maxRecDepth 100000 in
theorem kX11_240 : MV RX11 240 mX11_needNumber 10 3 16 := ⟨RX11, TX11, rfl, by decide, lwg_t5 117 (by decide +kernel) rfl, mcX11_needNumber, lwg_t5 119 (by decide +kernel) rfl, lwg_t0 7 (by decide +kernel) rfl⟩
set_option maxRecDepth 100000 in
theorem mcX6_remember : MC mX6_remember 1 := ⟨lwg_t5 124 (by decide +kernel) rfl, lwg_t1 13 (by decide +kernel) rfl, by decide +kernel, by decide +kernel, by decide⟩
set_option maxRecDepth 100000 in
theorem kX11_244 : MV RX11 244 mX6_remember 6 1 3 := ⟨RX6, TX6, rfl, by decide, lwg_t5 121 (by decide +kernel) rfl, mcX6_remember, lwg_t5 122 (by decide +kernel) rfl, lwg_t5 123 (by decide +kernel) rfl⟩
set_option maxRecDepth 100000 in
theorem mcX7_goOn : MC mX7_goOn 2 := ⟨lwg_t5 128 (by decide +kernel) rfl, lwg_t1 11 (by decide +kernel) rfl, by decide +kernel, by decide +kernel, by decide⟩
set_option maxRecDepth 100000 in
theorem kX11_247 : MV RX11 247 mX7_goOn 7 2 3 := ⟨RX7, TX7, rfl, by decide, lwg_t5 125 (by decide +kernel) rfl, mcX7_goOn, lwg_t5 126 (by decide +kernel) rfl, lwg_t5 127 (by decide +kernel) rfl⟩
set_option maxRecDepth 100000 in
theorem mcX10_takeOff : MC mX10_takeOff 1 := ⟨lwg_t5 197 (by decide +kernel) rfl, lwg_t1 3 (by decide +kernel) rfl, by decide +kernel, by decide +kernel, by decide⟩
set_option maxRecDepth 100000 in
theorem kX11_254 : MV RX11 254 mX10_takeOff 9 1 20 := ⟨RX10, TX10, rfl, by decide, lwg_t5 194 (by decide +kernel) rfl, mcX10_takeOff, lwg_t5 195 (by decide +kernel) rfl, lwg_t5 196 (by decide +kernel) rfl⟩
set_option maxRecDepth 100000 in
theorem mcX10_putAt : MC mX10_putAt 3 := ⟨lwg_t4 63 (by decide +kernel) rfl, lwg_t1 3 (by decide +kernel) rfl, by decide +kernel, by decide +kernel, by decide⟩
set_option maxRecDepth 100000 in
theorem kX11_257 : MV RX11 257 mX10_putAt 9 3 20 := ⟨RX10, TX10, rfl, by decide, lwg_t5 199 (by decide +kernel) rfl, mcX10_putAt, lwg_t4 61 (by decide +kernel) rfl, lwg_t4 62 (by decide +kernel) rfl⟩
set_option maxRecDepth 100000 in
theorem mcX1_firstFreeing : MC mX1_firstFreeing 3 := ⟨lwg_t5 56 (by decide +kernel) rfl, lwg_t1 10 (by decide +kernel) rfl, by decide +kernel, by decide +kernel, by decide⟩
set_option maxRecDepth 100000 in
theorem kX11_260 : MV RX11 260 mX1_firstFreeing 1 3 3 := ⟨RX1, TX1, rfl, by decide, lwg_t6 9 (by decide +kernel) rfl, mcX1_firstFreeing, lwg_t5 54 (by decide +kernel) rfl, lwg_t5 55 (by decide +kernel) rfl⟩
set_option maxRecDepth 100000 in
theorem mcX1_freeingNow : MC mX1_freeingNow 1 := ⟨lwg_t3 71 (by decide +kernel) rfl, lwg_t1 10 (by decide +kernel) rfl, by decide +kernel, by decide +kernel, by decide⟩
set_option maxRecDepth 100000 in
theorem kX11_263 : MV RX11 263 mX1_freeingNow 1 1 3 := ⟨RX1, TX1, rfl, by decide, lwg_t3 80 (by decide +kernel) rfl, mcX1_freeingNow, lwg_t3 69 (by decide +kernel) rfl, lwg_t3 70 (by decide +kernel) rfl⟩
set_option maxRecDepth 100000 in
theorem mcX5_openPlaces : MC mX5_openPlaces 0 := ⟨lwg_t2 200 (by decide +kernel) rfl, lwg_t1 12 (by decide +kernel) rfl, by decide +kernel, by decide +kernel, by decide⟩
set_option maxRecDepth 100000 in
theorem kX11_269 : MV RX11 269 mX5_openPlaces 5 0 8 := ⟨RX5, TX5, rfl, by decide, lwg_t2 197 (by decide +kernel) rfl, mcX5_openPlaces, lwg_t2 198 (by decide +kernel) rfl, lwg_t2 199 (by decide +kernel) rfl⟩
set_option maxRecDepth 100000 in
theorem mcX5_savedCases : MC mX5_savedCases 0 := ⟨lwg_t2 230 (by decide +kernel) rfl, lwg_t1 12 (by decide +kernel) rfl, by decide +kernel, by decide +kernel, by decide⟩
set_option maxRecDepth 100000 in
theorem kX11_272 : MV RX11 272 mX5_savedCases 5 0 8 := ⟨RX5, TX5, rfl, by decide, lwg_t2 227 (by decide +kernel) rfl, mcX5_savedCases, lwg_t2 228 (by decide +kernel) rfl, lwg_t2 229 (by decide +kernel) rfl⟩
set_option maxRecDepth 100000 in
theorem mcX10_worthOf : MC mX10_worthOf 1 := ⟨lwg_t3 23 (by decide +kernel) rfl, lwg_t1 3 (by decide +kernel) rfl, by decide +kernel, by decide +kernel, by decide⟩
set_option maxRecDepth 100000 in
theorem kX11_276 : MV RX11 276 mX10_worthOf 9 1 20 := ⟨RX10, TX10, rfl, by decide, lwg_t3 20 (by decide +kernel) rfl, mcX10_worthOf, lwg_t3 21 (by decide +kernel) rfl, lwg_t3 22 (by decide +kernel) rfl⟩
set_option maxRecDepth 100000 in
theorem mcX5_hoursFor : MC mX5_hoursFor 1 := ⟨lwg_t3 31 (by decide +kernel) rfl, lwg_t1 12 (by decide +kernel) rfl, by decide +kernel, by decide +kernel, by decide⟩
set_option maxRecDepth 100000 in
theorem kX11_279 : MV RX11 279 mX5_hoursFor 5 1 8 := ⟨RX5, TX5, rfl, by decide, lwg_t3 28 (by decide +kernel) rfl, mcX5_hoursFor, lwg_t3 29 (by decide +kernel) rfl, lwg_t3 30 (by decide +kernel) rfl⟩
set_option maxRecDepth 100000 in
theorem mcX10_crumbling : MC mX10_crumbling 1 := ⟨lwg_t3 39 (by decide +kernel) rfl, lwg_t1 3 (by decide +kernel) rfl, by decide +kernel, by decide +kernel, by decide⟩
set_option maxRecDepth 100000 in
theorem kX11_282 : MV RX11 282 mX10_crumbling 9 1 20 := ⟨RX10, TX10, rfl, by decide, lwg_t3 36 (by decide +kernel) rfl, mcX10_crumbling, lwg_t3 37 (by decide +kernel) rfl, lwg_t3 38 (by decide +kernel) rfl⟩
set_option maxRecDepth 100000 in
theorem mcJ6_bitCount_0f7a4 : MC mJ6_bitCount_0f7a4 1 := ⟨lwg_t3 16 (by decide +kernel) rfl, lwg_t1 28 (by decide +kernel) rfl, by decide +kernel, by decide +kernel, by decide⟩
set_option maxRecDepth 100000 in
theorem kX11_285 : MS RX11 285 mJ6_bitCount_0f7a4 1 := ⟨lwg_t3 45 (by decide +kernel) rfl, mcJ6_bitCount_0f7a4, lwg_t3 15 (by decide +kernel) rfl⟩
set_option maxRecDepth 100000 in
theorem mcX10_chainTo : MC mX10_chainTo 1 := ⟨lwg_t3 53 (by decide +kernel) rfl, lwg_t1 3 (by decide +kernel) rfl, by decide +kernel, by decide +kernel, by decide⟩
set_option maxRecDepth 100000 in
theorem kX11_293 : MV RX11 293 mX10_chainTo 9 1 20 := ⟨RX10, TX10, rfl, by decide, lwg_t3 50 (by decide +kernel) rfl, mcX10_chainTo, lwg_t3 51 (by decide +kernel) rfl, lwg_t3 52 (by decide +kernel) rfl⟩
set_option maxRecDepth 100000 in
theorem kX11_296 : Cond.methodLink RX11 296 ⟨"java/lang/Math", "max", "(II)I"⟩ ∈ lwg := lwg_t3 54 (by decide +kernel) rfl
set_option maxRecDepth 100000 in
theorem mcX11_hungersThatFit : MC mX11_hungersThatFit 1 := ⟨lwg_t6 34 (by decide +kernel) rfl, lwg_t1 1 (by decide +kernel) rfl, by decide +kernel, by decide +kernel, by decide⟩
set_option maxRecDepth 100000 in
theorem kX11_301 : MV RX11 301 mX11_hungersThatFit 10 1 16 := ⟨RX11, TX11, rfl, by decide, lwg_t6 31 (by decide +kernel) rfl, mcX11_hungersThatFit, lwg_t6 33 (by decide +kernel) rfl, lwg_t0 8 (by decide +kernel) rfl⟩
set_option maxRecDepth 100000 in
theorem mcJ13_bitCount_95d88 : MC mJ13_bitCount_95d88 1 := ⟨lwg_t3 10 (by decide +kernel) rfl, lwg_t1 30 (by decide +kernel) rfl, by decide +kernel, by decide +kernel, by decide⟩
set_option maxRecDepth 100000 in
theorem kX11_305 : MS RX11 305 mJ13_bitCount_95d88 1 := ⟨lwg_t6 48 (by decide +kernel) rfl, mcJ13_bitCount_95d88, lwg_t3 9 (by decide +kernel) rfl⟩
set_option maxRecDepth 100000 in
theorem mcX1_bestTry : MC mX1_bestTry 2 := ⟨lwg_t6 59 (by decide +kernel) rfl, lwg_t1 10 (by decide +kernel) rfl, by decide +kernel, by decide +kernel, by decide⟩
set_option maxRecDepth 100000 in
theorem kX11_310 : MV RX11 310 mX1_bestTry 1 2 3 := ⟨RX1, TX1, rfl, by decide, lwg_t6 56 (by decide +kernel) rfl, mcX1_bestTry, lwg_t6 57 (by decide +kernel) rfl, lwg_t6 58 (by decide +kernel) rfl⟩
set_option maxRecDepth 100000 in
theorem mcX1_movingHunger : MC mX1_movingHunger 2 := ⟨lwg_t6 75 (by decide +kernel) rfl, lwg_t1 10 (by decide +kernel) rfl, by decide +kernel, by decide +kernel, by decide⟩
set_option maxRecDepth 100000 in
theorem kX11_314 : MV RX11 314 mX1_movingHunger 1 2 3 := ⟨RX1, TX1, rfl, by decide, lwg_t6 72 (by decide +kernel) rfl, mcX1_movingHunger, lwg_t6 73 (by decide +kernel) rfl, lwg_t6 74 (by decide +kernel) rfl⟩
set_option maxRecDepth 100000 in
theorem mcX1_hangingGrave : MC mX1_hangingGrave 2 := ⟨lwg_t6 86 (by decide +kernel) rfl, lwg_t1 10 (by decide +kernel) rfl, by decide +kernel, by decide +kernel, by decide⟩
set_option maxRecDepth 100000 in
theorem kX11_317 : MV RX11 317 mX1_hangingGrave 1 2 3 := ⟨RX1, TX1, rfl, by decide, lwg_t6 83 (by decide +kernel) rfl, mcX1_hangingGrave, lwg_t6 84 (by decide +kernel) rfl, lwg_t6 85 (by decide +kernel) rfl⟩
set_option maxRecDepth 100000 in
theorem mcX5_circuitsAheadOf : MC mX5_circuitsAheadOf 2 := ⟨lwg_t6 97 (by decide +kernel) rfl, lwg_t1 12 (by decide +kernel) rfl, by decide +kernel, by decide +kernel, by decide⟩
set_option maxRecDepth 100000 in
theorem kX11_323 : MV RX11 323 mX5_circuitsAheadOf 5 2 8 := ⟨RX5, TX5, rfl, by decide, lwg_t6 94 (by decide +kernel) rfl, mcX5_circuitsAheadOf, lwg_t6 95 (by decide +kernel) rfl, lwg_t6 96 (by decide +kernel) rfl⟩
set_option maxRecDepth 100000 in
theorem mcX1_bestAppeal : MC mX1_bestAppeal 0 := ⟨lwg_t3 67 (by decide +kernel) rfl, lwg_t1 10 (by decide +kernel) rfl, by decide +kernel, by decide +kernel, by decide⟩
set_option maxRecDepth 100000 in
theorem kX11_326 : MV RX11 326 mX1_bestAppeal 1 0 3 := ⟨RX1, TX1, rfl, by decide, lwg_t3 64 (by decide +kernel) rfl, mcX1_bestAppeal, lwg_t3 65 (by decide +kernel) rfl, lwg_t3 66 (by decide +kernel) rfl⟩
set_option maxRecDepth 100000 in
theorem mcX5_pairAll : MC mX5_pairAll 0 := ⟨lwg_t6 108 (by decide +kernel) rfl, lwg_t1 12 (by decide +kernel) rfl, by decide +kernel, by decide +kernel, by decide⟩
set_option maxRecDepth 100000 in
theorem kX11_329 : MV RX11 329 mX5_pairAll 5 0 8 := ⟨RX5, TX5, rfl, by decide, lwg_t6 105 (by decide +kernel) rfl, mcX5_pairAll, lwg_t6 106 (by decide +kernel) rfl, lwg_t6 107 (by decide +kernel) rfl⟩
set_option maxRecDepth 100000 in
theorem mcX5_restingChoices : MC mX5_restingChoices 1 := ⟨lwg_t6 125 (by decide +kernel) rfl, lwg_t1 12 (by decide +kernel) rfl, by decide +kernel, by decide +kernel, by decide⟩
set_option maxRecDepth 100000 in
theorem kX11_338 : MV RX11 338 mX5_restingChoices 5 1 8 := ⟨RX5, TX5, rfl, by decide, lwg_t6 122 (by decide +kernel) rfl, mcX5_restingChoices, lwg_t6 123 (by decide +kernel) rfl, lwg_t6 124 (by decide +kernel) rfl⟩
set_option maxRecDepth 100000 in
theorem mcX10_inState : MC mX10_inState 1 := ⟨lwg_t2 234 (by decide +kernel) rfl, lwg_t1 3 (by decide +kernel) rfl, by decide +kernel, by decide +kernel, by decide⟩
set_option maxRecDepth 100000 in
theorem kX11_341 : MV RX11 341 mX10_inState 9 1 20 := ⟨RX10, TX10, rfl, by decide, lwg_t3 139 (by decide +kernel) rfl, mcX10_inState, lwg_t2 232 (by decide +kernel) rfl, lwg_t2 233 (by decide +kernel) rfl⟩
set_option maxRecDepth 100000 in
theorem mcX11_rehearse : MC mX11_rehearse 2 := ⟨lwg_t6 172 (by decide +kernel) rfl, lwg_t1 1 (by decide +kernel) rfl, by decide +kernel, by decide +kernel, by decide⟩
set_option maxRecDepth 100000 in
theorem kX11_347 : MV RX11 347 mX11_rehearse 10 2 16 := ⟨RX11, TX11, rfl, by decide, lwg_t6 169 (by decide +kernel) rfl, mcX11_rehearse, lwg_t6 171 (by decide +kernel) rfl, lwg_t0 11 (by decide +kernel) rfl⟩
set_option maxRecDepth 100000 in
theorem kX11_351 : Cond.methodLink RX11 351 ⟨"java/lang/Math", "min", "(II)I"⟩ ∈ lwg := lwg_t6 180 (by decide +kernel) rfl
set_option maxRecDepth 100000 in
theorem mcX4_latestDayOf : MC mX4_latestDayOf 1 := ⟨lwg_t6 191 (by decide +kernel) rfl, lwg_t1 4 (by decide +kernel) rfl, by decide +kernel, by decide +kernel, by decide⟩
set_option maxRecDepth 100000 in
theorem kX11_358 : MV RX11 358 mX4_latestDayOf 4 1 3 := ⟨RX4, TX4, rfl, by decide, lwg_t6 188 (by decide +kernel) rfl, mcX4_latestDayOf, lwg_t6 189 (by decide +kernel) rfl, lwg_t6 190 (by decide +kernel) rfl⟩
set_option maxRecDepth 100000 in
theorem mcX4_rowsOf : MC mX4_rowsOf 1 := ⟨lwg_t6 199 (by decide +kernel) rfl, lwg_t1 4 (by decide +kernel) rfl, by decide +kernel, by decide +kernel, by decide⟩
set_option maxRecDepth 100000 in
theorem kX11_363 : MV RX11 363 mX4_rowsOf 4 1 3 := ⟨RX4, TX4, rfl, by decide, lwg_t6 196 (by decide +kernel) rfl, mcX4_rowsOf, lwg_t6 197 (by decide +kernel) rfl, lwg_t6 198 (by decide +kernel) rfl⟩
set_option maxRecDepth 100000 in
theorem mcX4_look : MC mX4_look 2 := ⟨lwg_t6 195 (by decide +kernel) rfl, lwg_t1 4 (by decide +kernel) rfl, by decide +kernel, by decide +kernel, by decide⟩
set_option maxRecDepth 100000 in
theorem kX11_366 : MV RX11 366 mX4_look 4 2 3 := ⟨RX4, TX4, rfl, by decide, lwg_t6 207 (by decide +kernel) rfl, mcX4_look, lwg_t6 193 (by decide +kernel) rfl, lwg_t6 194 (by decide +kernel) rfl⟩
set_option maxRecDepth 100000 in
theorem mcX6_goBack : MC mX6_goBack 1 := ⟨lwg_t3 104 (by decide +kernel) rfl, lwg_t1 13 (by decide +kernel) rfl, by decide +kernel, by decide +kernel, by decide⟩
set_option maxRecDepth 100000 in
theorem kX11_369 : MV RX11 369 mX6_goBack 6 1 3 := ⟨RX6, TX6, rfl, by decide, lwg_t3 101 (by decide +kernel) rfl, mcX6_goBack, lwg_t3 102 (by decide +kernel) rfl, lwg_t3 103 (by decide +kernel) rfl⟩
set_option maxRecDepth 100000 in
theorem mcX10_inList : MC mX10_inList 0 := ⟨lwg_t3 143 (by decide +kernel) rfl, lwg_t1 3 (by decide +kernel) rfl, by decide +kernel, by decide +kernel, by decide⟩
set_option maxRecDepth 100000 in
theorem kX11_376 : MV RX11 376 mX10_inList 9 0 20 := ⟨RX10, TX10, rfl, by decide, lwg_t3 140 (by decide +kernel) rfl, mcX10_inList, lwg_t3 141 (by decide +kernel) rfl, lwg_t3 142 (by decide +kernel) rfl⟩
set_option maxRecDepth 100000 in
theorem mcX10_hungerOfAll : MC mX10_hungerOfAll 0 := ⟨lwg_t3 147 (by decide +kernel) rfl, lwg_t1 3 (by decide +kernel) rfl, by decide +kernel, by decide +kernel, by decide⟩
set_option maxRecDepth 100000 in
theorem kX11_379 : MV RX11 379 mX10_hungerOfAll 9 0 20 := ⟨RX10, TX10, rfl, by decide, lwg_t3 144 (by decide +kernel) rfl, mcX10_hungerOfAll, lwg_t3 145 (by decide +kernel) rfl, lwg_t3 146 (by decide +kernel) rfl⟩
set_option maxRecDepth 100000 in
theorem mcX8_useUp : MC mX8_useUp 0 := ⟨lwg_t3 170 (by decide +kernel) rfl, lwg_t1 2 (by decide +kernel) rfl, by decide +kernel, by decide +kernel, by decide⟩
set_option maxRecDepth 100000 in
theorem kX11_386 : MV RX11 386 mX8_useUp 8 0 6 := ⟨RX8, TX8, rfl, by decide, lwg_t6 35 (by decide +kernel) rfl, mcX8_useUp, lwg_t3 168 (by decide +kernel) rfl, lwg_t3 169 (by decide +kernel) rfl⟩
set_option maxRecDepth 100000 in
theorem mcX11_areMeals : MC mX11_areMeals 1 := ⟨lwg_t6 39 (by decide +kernel) rfl, lwg_t1 1 (by decide +kernel) rfl, by decide +kernel, by decide +kernel, by decide⟩
set_option maxRecDepth 100000 in
theorem kX11_389 : MV RX11 389 mX11_areMeals 10 1 16 := ⟨RX11, TX11, rfl, by decide, lwg_t6 36 (by decide +kernel) rfl, mcX11_areMeals, lwg_t6 38 (by decide +kernel) rfl, lwg_t0 9 (by decide +kernel) rfl⟩
set_option maxRecDepth 100000 in
theorem mcX1_fittingHungers : MC mX1_fittingHungers 3 := ⟨lwg_t6 43 (by decide +kernel) rfl, lwg_t1 10 (by decide +kernel) rfl, by decide +kernel, by decide +kernel, by decide⟩
set_option maxRecDepth 100000 in
theorem kX11_396 : MV RX11 396 mX1_fittingHungers 1 3 3 := ⟨RX1, TX1, rfl, by decide, lwg_t6 40 (by decide +kernel) rfl, mcX1_fittingHungers, lwg_t6 41 (by decide +kernel) rfl, lwg_t6 42 (by decide +kernel) rfl⟩
set_option maxRecDepth 100000 in
theorem mcX9_init : MC mX9_init 2 := ⟨lwg_t2 14 (by decide +kernel) rfl, lwg_t1 7 (by decide +kernel) rfl, by decide +kernel, by decide +kernel, by decide⟩
set_option maxRecDepth 100000 in
theorem kX0_5 : MI RX0 5 mX9_init 2 := ⟨lwg_t2 12 (by decide +kernel) rfl, mcX9_init, lwg_t2 13 (by decide +kernel) rfl, rfl, rfl⟩
set_option maxRecDepth 100000 in
theorem mcX8_here : MC mX8_here 0 := ⟨lwg_t4 5 (by decide +kernel) rfl, lwg_t1 2 (by decide +kernel) rfl, by decide +kernel, by decide +kernel, by decide⟩
set_option maxRecDepth 100000 in
theorem kX0_19 : MV RX0 19 mX8_here 8 0 6 := ⟨RX8, TX8, rfl, by decide, lwg_t4 12 (by decide +kernel) rfl, mcX8_here, lwg_t4 3 (by decide +kernel) rfl, lwg_t4 4 (by decide +kernel) rfl⟩
set_option maxRecDepth 100000 in
theorem mcX0_readJudge : MC mX0_readJudge 0 := ⟨lwg_t4 16 (by decide +kernel) rfl, lwg_t1 8 (by decide +kernel) rfl, by decide +kernel, by decide +kernel, by decide⟩
set_option maxRecDepth 100000 in
theorem kX0_25 : MV RX0 25 mX0_readJudge 0 0 3 := ⟨RX0, TX0, rfl, by decide, lwg_t4 13 (by decide +kernel) rfl, mcX0_readJudge, lwg_t4 14 (by decide +kernel) rfl, lwg_t4 15 (by decide +kernel) rfl⟩
set_option maxRecDepth 100000 in
theorem mcX0_readCase : MC mX0_readCase 0 := ⟨lwg_t4 46 (by decide +kernel) rfl, lwg_t1 8 (by decide +kernel) rfl, by decide +kernel, by decide +kernel, by decide⟩
set_option maxRecDepth 100000 in
theorem kX0_29 : MV RX0 29 mX0_readCase 0 0 3 := ⟨RX0, TX0, rfl, by decide, lwg_t4 43 (by decide +kernel) rfl, mcX0_readCase, lwg_t4 44 (by decide +kernel) rfl, lwg_t4 45 (by decide +kernel) rfl⟩
set_option maxRecDepth 100000 in
theorem mcX0_readPlace : MC mX0_readPlace 0 := ⟨lwg_t4 55 (by decide +kernel) rfl, lwg_t1 8 (by decide +kernel) rfl, by decide +kernel, by decide +kernel, by decide⟩
set_option maxRecDepth 100000 in
theorem kX0_32 : MV RX0 32 mX0_readPlace 0 0 3 := ⟨RX0, TX0, rfl, by decide, lwg_t4 52 (by decide +kernel) rfl, mcX0_readPlace, lwg_t4 53 (by decide +kernel) rfl, lwg_t4 54 (by decide +kernel) rfl⟩
set_option maxRecDepth 100000 in
theorem mcX0_readInn : MC mX0_readInn 0 := ⟨lwg_t4 67 (by decide +kernel) rfl, lwg_t1 8 (by decide +kernel) rfl, by decide +kernel, by decide +kernel, by decide⟩
set_option maxRecDepth 100000 in
theorem kX0_35 : MV RX0 35 mX0_readInn 0 0 3 := ⟨RX0, TX0, rfl, by decide, lwg_t4 64 (by decide +kernel) rfl, mcX0_readInn, lwg_t4 65 (by decide +kernel) rfl, lwg_t4 66 (by decide +kernel) rfl⟩
set_option maxRecDepth 100000 in
theorem mcX8_needNamed : MC mX8_needNamed 2 := ⟨lwg_t4 28 (by decide +kernel) rfl, lwg_t1 2 (by decide +kernel) rfl, by decide +kernel, by decide +kernel, by decide⟩
set_option maxRecDepth 100000 in
theorem kX0_38 : MV RX0 38 mX8_needNamed 8 2 6 := ⟨RX8, TX8, rfl, by decide, lwg_t4 25 (by decide +kernel) rfl, mcX8_needNamed, lwg_t4 26 (by decide +kernel) rfl, lwg_t4 27 (by decide +kernel) rfl⟩
set_option maxRecDepth 100000 in
theorem mcX8_refuse : MC mX8_refuse 0 := ⟨lwg_t4 24 (by decide +kernel) rfl, lwg_t1 2 (by decide +kernel) rfl, by decide +kernel, by decide +kernel, by decide⟩
set_option maxRecDepth 100000 in
theorem kX0_51 : MV RX0 51 mX8_refuse 8 0 6 := ⟨RX8, TX8, rfl, by decide, lwg_t4 21 (by decide +kernel) rfl, mcX8_refuse, lwg_t4 22 (by decide +kernel) rfl, lwg_t4 23 (by decide +kernel) rfl⟩
set_option maxRecDepth 100000 in
theorem mcX8_take : MC mX8_take 1 := ⟨lwg_t4 20 (by decide +kernel) rfl, lwg_t1 2 (by decide +kernel) rfl, by decide +kernel, by decide +kernel, by decide⟩
set_option maxRecDepth 100000 in
theorem kX0_57 : MV RX0 57 mX8_take 8 1 6 := ⟨RX8, TX8, rfl, by decide, lwg_t4 17 (by decide +kernel) rfl, mcX8_take, lwg_t4 18 (by decide +kernel) rfl, lwg_t4 19 (by decide +kernel) rfl⟩
set_option maxRecDepth 100000 in
theorem mcX8_maybeNamed : MC mX8_maybeNamed 3 := ⟨lwg_t4 42 (by decide +kernel) rfl, lwg_t1 2 (by decide +kernel) rfl, by decide +kernel, by decide +kernel, by decide⟩
set_option maxRecDepth 100000 in
theorem kX0_61 : MV RX0 61 mX8_maybeNamed 8 3 6 := ⟨RX8, TX8, rfl, by decide, lwg_t4 39 (by decide +kernel) rfl, mcX8_maybeNamed, lwg_t4 40 (by decide +kernel) rfl, lwg_t4 41 (by decide +kernel) rfl⟩
set_option maxRecDepth 100000 in
theorem mcX8_needFrom : MC mX8_needFrom 2 := ⟨lwg_t4 38 (by decide +kernel) rfl, lwg_t1 2 (by decide +kernel) rfl, by decide +kernel, by decide +kernel, by decide⟩
set_option maxRecDepth 100000 in
theorem kX0_81 : MV RX0 81 mX8_needFrom 8 2 6 := ⟨RX8, TX8, rfl, by decide, lwg_t4 47 (by decide +kernel) rfl, mcX8_needFrom, lwg_t4 36 (by decide +kernel) rfl, lwg_t4 37 (by decide +kernel) rfl⟩
set_option maxRecDepth 100000 in
theorem mcX8_needNumber : MC mX8_needNumber 1 := ⟨lwg_t4 51 (by decide +kernel) rfl, lwg_t1 2 (by decide +kernel) rfl, by decide +kernel, by decide +kernel, by decide⟩
set_option maxRecDepth 100000 in
theorem kX0_84 : MV RX0 84 mX8_needNumber 8 1 6 := ⟨RX8, TX8, rfl, by decide, lwg_t4 48 (by decide +kernel) rfl, mcX8_needNumber, lwg_t4 49 (by decide +kernel) rfl, lwg_t4 50 (by decide +kernel) rfl⟩
set_option maxRecDepth 100000 in
theorem kX0_100 : MV RX0 100 mX10_placeOf 9 1 20 := ⟨RX10, TX10, rfl, by decide, lwg_t4 56 (by decide +kernel) rfl, mcX10_placeOf, lwg_t4 57 (by decide +kernel) rfl, lwg_t4 58 (by decide +kernel) rfl⟩
set_option maxRecDepth 100000 in
theorem kX0_103 : MV RX0 103 mX10_putAt 9 3 20 := ⟨RX10, TX10, rfl, by decide, lwg_t4 60 (by decide +kernel) rfl, mcX10_putAt, lwg_t4 61 (by decide +kernel) rfl, lwg_t4 62 (by decide +kernel) rfl⟩
set_option maxRecDepth 100000 in
theorem kX1_3 : Cond.methodLink RX1 3 ⟨"java/lang/Object", "<init>", "()V"⟩ ∈ lwg := lwg_t2 47 (by decide +kernel) rfl
set_option maxRecDepth 100000 in
theorem mcX1_tellFacts : MC mX1_tellFacts 4 := ⟨lwg_t2 218 (by decide +kernel) rfl, lwg_t1 10 (by decide +kernel) rfl, by decide +kernel, by decide +kernel, by decide⟩
set_option maxRecDepth 100000 in
theorem kX1_47 : MV RX1 47 mX1_tellFacts 1 4 3 := ⟨RX1, TX1, rfl, by decide, lwg_t2 215 (by decide +kernel) rfl, mcX1_tellFacts, lwg_t2 216 (by decide +kernel) rfl, lwg_t2 217 (by decide +kernel) rfl⟩
set_option maxRecDepth 100000 in
theorem mcX2_sumOf : MC mX2_sumOf 2 := ⟨lwg_t2 222 (by decide +kernel) rfl, lwg_t1 6 (by decide +kernel) rfl, by decide +kernel, by decide +kernel, by decide⟩
set_option maxRecDepth 100000 in
theorem kX1_54 : MV RX1 54 mX2_sumOf 2 2 7 := ⟨RX2, TX2, rfl, by decide, lwg_t2 219 (by decide +kernel) rfl, mcX2_sumOf, lwg_t2 220 (by decide +kernel) rfl, lwg_t2 221 (by decide +kernel) rfl⟩
set_option maxRecDepth 100000 in
theorem kX1_68 : Cond.methodLink RX1 68 ⟨"java/lang/Math", "max", "(II)I"⟩ ∈ lwg := lwg_t2 205 (by decide +kernel) rfl
set_option maxRecDepth 100000 in
theorem mcX1_weigh : MC mX1_weigh 5 := ⟨lwg_t2 214 (by decide +kernel) rfl, lwg_t1 10 (by decide +kernel) rfl, by decide +kernel, by decide +kernel, by decide⟩
set_option maxRecDepth 100000 in
theorem kX1_74 : MV RX1 74 mX1_weigh 1 5 3 := ⟨RX1, TX1, rfl, by decide, lwg_t2 211 (by decide +kernel) rfl, mcX1_weigh, lwg_t2 212 (by decide +kernel) rfl, lwg_t2 213 (by decide +kernel) rfl⟩
set_option maxRecDepth 100000 in
theorem kX1_78 : Cond.methodLink RX1 78 ⟨"java/lang/Math", "min", "(II)I"⟩ ∈ lwg := lwg_t2 208 (by decide +kernel) rfl
set_option maxRecDepth 100000 in
theorem mcX1_freesNow : MC mX1_freesNow 2 := ⟨lwg_t3 75 (by decide +kernel) rfl, lwg_t1 10 (by decide +kernel) rfl, by decide +kernel, by decide +kernel, by decide⟩
set_option maxRecDepth 100000 in
theorem kX1_84 : MV RX1 84 mX1_freesNow 1 2 3 := ⟨RX1, TX1, rfl, by decide, lwg_t3 72 (by decide +kernel) rfl, mcX1_freesNow, lwg_t3 73 (by decide +kernel) rfl, lwg_t3 74 (by decide +kernel) rfl⟩
set_option maxRecDepth 100000 in
theorem kX1_91 : MV RX1 91 mX1_wouldBe 1 3 3 := ⟨RX1, TX1, rfl, by decide, lwg_t5 57 (by decide +kernel) rfl, mcX1_wouldBe, lwg_t2 202 (by decide +kernel) rfl, lwg_t2 203 (by decide +kernel) rfl⟩
set_option maxRecDepth 100000 in
theorem kX1_95 : MV RX1 95 mX1_firstFreeing 1 3 3 := ⟨RX1, TX1, rfl, by decide, lwg_t5 53 (by decide +kernel) rfl, mcX1_firstFreeing, lwg_t5 54 (by decide +kernel) rfl, lwg_t5 55 (by decide +kernel) rfl⟩
set_option maxRecDepth 100000 in
theorem kX1_98 : MV RX1 98 mX10_placeOf 9 1 20 := ⟨RX10, TX10, rfl, by decide, lwg_t5 62 (by decide +kernel) rfl, mcX10_placeOf, lwg_t4 57 (by decide +kernel) rfl, lwg_t4 58 (by decide +kernel) rfl⟩
set_option maxRecDepth 100000 in
theorem kX1_102 : MV RX1 102 mX1_freeingNow 1 1 3 := ⟨RX1, TX1, rfl, by decide, lwg_t3 68 (by decide +kernel) rfl, mcX1_freeingNow, lwg_t3 69 (by decide +kernel) rfl, lwg_t3 70 (by decide +kernel) rfl⟩
set_option maxRecDepth 100000 in
theorem mcX1_freesHaving : MC mX1_freesHaving 4 := ⟨lwg_t6 47 (by decide +kernel) rfl, lwg_t1 10 (by decide +kernel) rfl, by decide +kernel, by decide +kernel, by decide⟩
set_option maxRecDepth 100000 in
theorem kX1_105 : MV RX1 105 mX1_freesHaving 1 4 3 := ⟨RX1, TX1, rfl, by decide, lwg_t6 44 (by decide +kernel) rfl, mcX1_freesHaving, lwg_t6 45 (by decide +kernel) rfl, lwg_t6 46 (by decide +kernel) rfl⟩
set_option maxRecDepth 100000 in
theorem kX1_109 : MS RX1 109 mJ13_bitCount_95d88 1 := ⟨lwg_t6 60 (by decide +kernel) rfl, mcJ13_bitCount_95d88, lwg_t3 9 (by decide +kernel) rfl⟩
set_option maxRecDepth 100000 in
theorem mcX1_freeingOf : MC mX1_freeingOf 3 := ⟨lwg_t6 64 (by decide +kernel) rfl, lwg_t1 10 (by decide +kernel) rfl, by decide +kernel, by decide +kernel, by decide⟩
set_option maxRecDepth 100000 in
theorem kX1_115 : MV RX1 115 mX1_freeingOf 1 3 3 := ⟨RX1, TX1, rfl, by decide, lwg_t6 61 (by decide +kernel) rfl, mcX1_freeingOf, lwg_t6 62 (by decide +kernel) rfl, lwg_t6 63 (by decide +kernel) rfl⟩
set_option maxRecDepth 100000 in
theorem kX2_5 : Cond.methodLink RX2 5 ⟨"java/lang/Object", "<init>", "()V"⟩ ∈ lwg := lwg_t1 223 (by decide +kernel) rfl
set_option maxRecDepth 100000 in
theorem kX2_36 : Cond.methodLink RX2 36 ⟨"java/lang/System", "arraycopy", "(Ljava/lang/Object;ILjava/lang/Object;II)V"⟩ ∈ lwg := lwg_t3 126 (by decide +kernel) rfl
set_option maxRecDepth 100000 in
theorem mcX2_holds : MC mX2_holds 3 := ⟨lwg_t2 226 (by decide +kernel) rfl, lwg_t1 6 (by decide +kernel) rfl, by decide +kernel, by decide +kernel, by decide⟩
set_option maxRecDepth 100000 in
theorem kX2_42 : MV RX2 42 mX2_holds 2 3 7 := ⟨RX2, TX2, rfl, by decide, lwg_t2 223 (by decide +kernel) rfl, mcX2_holds, lwg_t2 224 (by decide +kernel) rfl, lwg_t2 225 (by decide +kernel) rfl⟩
set_option maxRecDepth 100000 in
theorem kX3_5 : MI RX3 5 mX9_init 2 := ⟨lwg_t2 35 (by decide +kernel) rfl, mcX9_init, lwg_t2 13 (by decide +kernel) rfl, rfl, rfl⟩
set_option maxRecDepth 100000 in
theorem kX3_21 : MV RX3 21 mX8_here 8 0 6 := ⟨RX8, TX8, rfl, by decide, lwg_t4 71 (by decide +kernel) rfl, mcX8_here, lwg_t4 3 (by decide +kernel) rfl, lwg_t4 4 (by decide +kernel) rfl⟩
set_option maxRecDepth 100000 in
theorem kX3_27 : MV RX3 27 mX8_needFrom 8 2 6 := ⟨RX8, TX8, rfl, by decide, lwg_t4 72 (by decide +kernel) rfl, mcX8_needFrom, lwg_t4 36 (by decide +kernel) rfl, lwg_t4 37 (by decide +kernel) rfl⟩
set_option maxRecDepth 100000 in
theorem kX3_31 : MV RX3 31 mX8_needNumber 8 1 6 := ⟨RX8, TX8, rfl, by decide, lwg_t4 73 (by decide +kernel) rfl, mcX8_needNumber, lwg_t4 49 (by decide +kernel) rfl, lwg_t4 50 (by decide +kernel) rfl⟩
set_option maxRecDepth 100000 in
theorem kX3_35 : MV RX3 35 mX8_take 8 1 6 := ⟨RX8, TX8, rfl, by decide, lwg_t4 74 (by decide +kernel) rfl, mcX8_take, lwg_t4 18 (by decide +kernel) rfl, lwg_t4 19 (by decide +kernel) rfl⟩
set_option maxRecDepth 100000 in
theorem mcX3_readCondition : MC mX3_readCondition 1 := ⟨lwg_t4 78 (by decide +kernel) rfl, lwg_t1 9 (by decide +kernel) rfl, by decide +kernel, by decide +kernel, by decide⟩
set_option maxRecDepth 100000 in
theorem kX3_39 : MV RX3 39 mX3_readCondition 3 1 3 := ⟨RX3, TX3, rfl, by decide, lwg_t4 75 (by decide +kernel) rfl, mcX3_readCondition, lwg_t4 77 (by decide +kernel) rfl, lwg_t0 0 (by decide +kernel) rfl⟩
set_option maxRecDepth 100000 in
theorem mcX2_closeLine : MC mX2_closeLine 2 := ⟨lwg_t4 96 (by decide +kernel) rfl, lwg_t1 6 (by decide +kernel) rfl, by decide +kernel, by decide +kernel, by decide⟩
set_option maxRecDepth 100000 in
theorem kX3_42 : MV RX3 42 mX2_closeLine 2 2 7 := ⟨RX2, TX2, rfl, by decide, lwg_t4 93 (by decide +kernel) rfl, mcX2_closeLine, lwg_t4 94 (by decide +kernel) rfl, lwg_t4 95 (by decide +kernel) rfl⟩
set_option maxRecDepth 100000 in
theorem mcX3_readAtom : MC mX3_readAtom 1 := ⟨lwg_t4 82 (by decide +kernel) rfl, lwg_t1 9 (by decide +kernel) rfl, by decide +kernel, by decide +kernel, by decide⟩
set_option maxRecDepth 100000 in
theorem kX3_46 : MV RX3 46 mX3_readAtom 3 1 3 := ⟨RX3, TX3, rfl, by decide, lwg_t4 79 (by decide +kernel) rfl, mcX3_readAtom, lwg_t4 81 (by decide +kernel) rfl, lwg_t0 1 (by decide +kernel) rfl⟩
set_option maxRecDepth 100000 in
theorem mcX2_add : MC mX2_add 1 := ⟨lwg_t4 88 (by decide +kernel) rfl, lwg_t1 6 (by decide +kernel) rfl, by decide +kernel, by decide +kernel, by decide⟩
set_option maxRecDepth 100000 in
theorem kX3_49 : MV RX3 49 mX2_add 2 1 7 := ⟨RX2, TX2, rfl, by decide, lwg_t4 85 (by decide +kernel) rfl, mcX2_add, lwg_t4 86 (by decide +kernel) rfl, lwg_t4 87 (by decide +kernel) rfl⟩
set_option maxRecDepth 100000 in
theorem kX3_52 : MV RX3 52 mX8_refuse 8 0 6 := ⟨RX8, TX8, rfl, by decide, lwg_t4 83 (by decide +kernel) rfl, mcX8_refuse, lwg_t4 22 (by decide +kernel) rfl, lwg_t4 23 (by decide +kernel) rfl⟩
set_option maxRecDepth 100000 in
theorem mcX8_need : MC mX8_need 1 := ⟨lwg_t4 32 (by decide +kernel) rfl, lwg_t1 2 (by decide +kernel) rfl, by decide +kernel, by decide +kernel, by decide⟩
set_option maxRecDepth 100000 in
theorem kX3_56 : MV RX3 56 mX8_need 8 1 6 := ⟨RX8, TX8, rfl, by decide, lwg_t4 84 (by decide +kernel) rfl, mcX8_need, lwg_t4 30 (by decide +kernel) rfl, lwg_t4 31 (by decide +kernel) rfl⟩
set_option maxRecDepth 100000 in
theorem mcX3_readComparison : MC mX3_readComparison 0 := ⟨lwg_t4 92 (by decide +kernel) rfl, lwg_t1 9 (by decide +kernel) rfl, by decide +kernel, by decide +kernel, by decide⟩
set_option maxRecDepth 100000 in
theorem kX3_59 : MV RX3 59 mX3_readComparison 3 0 3 := ⟨RX3, TX3, rfl, by decide, lwg_t4 89 (by decide +kernel) rfl, mcX3_readComparison, lwg_t4 91 (by decide +kernel) rfl, lwg_t0 2 (by decide +kernel) rfl⟩
set_option maxRecDepth 100000 in
theorem kX4_3 : Cond.methodLink RX4 3 ⟨"java/lang/Object", "<init>", "()V"⟩ ∈ lwg := lwg_t1 79 (by decide +kernel) rfl
set_option maxRecDepth 100000 in
theorem kX4_22 : Cond.methodLink RX4 22 ⟨"java/lang/System", "arraycopy", "(Ljava/lang/Object;ILjava/lang/Object;II)V"⟩ ∈ lwg := lwg_t3 116 (by decide +kernel) rfl
set_option maxRecDepth 100000 in
theorem kX4_28 : MV RX4 28 mX4_look 4 2 3 := ⟨RX4, TX4, rfl, by decide, lwg_t6 192 (by decide +kernel) rfl, mcX4_look, lwg_t6 193 (by decide +kernel) rfl, lwg_t6 194 (by decide +kernel) rfl⟩
set_option maxRecDepth 100000 in
theorem kX5_3 : Cond.methodLink RX5 3 ⟨"java/lang/Object", "<init>", "()V"⟩ ∈ lwg := lwg_t2 79 (by decide +kernel) rfl
set_option maxRecDepth 100000 in
theorem kX5_40 : MV RX5 40 mX10_inState 9 1 20 := ⟨RX10, TX10, rfl, by decide, lwg_t2 231 (by decide +kernel) rfl, mcX10_inState, lwg_t2 232 (by decide +kernel) rfl, lwg_t2 233 (by decide +kernel) rfl⟩
set_option maxRecDepth 100000 in
theorem mcX5_worthiest : MC mX5_worthiest 1 := ⟨lwg_t2 238 (by decide +kernel) rfl, lwg_t1 12 (by decide +kernel) rfl, by decide +kernel, by decide +kernel, by decide⟩
set_option maxRecDepth 100000 in
theorem kX5_49 : MV RX5 49 mX5_worthiest 5 1 8 := ⟨RX5, TX5, rfl, by decide, lwg_t2 235 (by decide +kernel) rfl, mcX5_worthiest, lwg_t2 236 (by decide +kernel) rfl, lwg_t2 237 (by decide +kernel) rfl⟩
set_option maxRecDepth 100000 in
theorem mcX5_haveRoom : MC mX5_haveRoom 2 := ⟨lwg_t3 3 (by decide +kernel) rfl, lwg_t1 12 (by decide +kernel) rfl, by decide +kernel, by decide +kernel, by decide⟩
set_option maxRecDepth 100000 in
theorem kX5_54 : MV RX5 54 mX5_haveRoom 5 2 8 := ⟨RX5, TX5, rfl, by decide, lwg_t3 0 (by decide +kernel) rfl, mcX5_haveRoom, lwg_t3 1 (by decide +kernel) rfl, lwg_t3 2 (by decide +kernel) rfl⟩
set_option maxRecDepth 100000 in
theorem kX5_67 : MV RX5 67 mX1_wouldBe 1 3 3 := ⟨RX1, TX1, rfl, by decide, lwg_t2 201 (by decide +kernel) rfl, mcX1_wouldBe, lwg_t2 202 (by decide +kernel) rfl, lwg_t2 203 (by decide +kernel) rfl⟩
set_option maxRecDepth 100000 in
theorem mcX5_openFor : MC mX5_openFor 1 := ⟨lwg_t3 7 (by decide +kernel) rfl, lwg_t1 12 (by decide +kernel) rfl, by decide +kernel, by decide +kernel, by decide⟩
set_option maxRecDepth 100000 in
theorem kX5_76 : MV RX5 76 mX5_openFor 5 1 8 := ⟨RX5, TX5, rfl, by decide, lwg_t3 4 (by decide +kernel) rfl, mcX5_openFor, lwg_t3 5 (by decide +kernel) rfl, lwg_t3 6 (by decide +kernel) rfl⟩
set_option maxRecDepth 100000 in
theorem kX5_80 : MS RX5 80 mJ13_bitCount_95d88 1 := ⟨lwg_t3 8 (by decide +kernel) rfl, mcJ13_bitCount_95d88, lwg_t3 9 (by decide +kernel) rfl⟩
set_option maxRecDepth 100000 in
theorem kX5_86 : MS RX5 86 mJ6_bitCount_0f7a4 1 := ⟨lwg_t3 14 (by decide +kernel) rfl, mcJ6_bitCount_0f7a4, lwg_t3 15 (by decide +kernel) rfl⟩
set_option maxRecDepth 100000 in
theorem mcJ7_fill_53178 : MC mJ7_fill_53178 2 := ⟨lwg_t1 93 (by decide +kernel) rfl, lwg_t1 5 (by decide +kernel) rfl, by decide +kernel, by decide +kernel, by decide⟩
set_option maxRecDepth 100000 in
theorem kX5_90 : MS RX5 90 mJ7_fill_53178 2 := ⟨lwg_t5 67 (by decide +kernel) rfl, mcJ7_fill_53178, lwg_t1 92 (by decide +kernel) rfl⟩
set_option maxRecDepth 100000 in
theorem mcX5_leastGathered : MC mX5_leastGathered 0 := ⟨lwg_t5 71 (by decide +kernel) rfl, lwg_t1 12 (by decide +kernel) rfl, by decide +kernel, by decide +kernel, by decide⟩
set_option maxRecDepth 100000 in
theorem kX5_96 : MV RX5 96 mX5_leastGathered 5 0 8 := ⟨RX5, TX5, rfl, by decide, lwg_t5 68 (by decide +kernel) rfl, mcX5_leastGathered, lwg_t5 69 (by decide +kernel) rfl, lwg_t5 70 (by decide +kernel) rfl⟩
set_option maxRecDepth 100000 in
theorem mcX5_hungriestBut : MC mX5_hungriestBut 1 := ⟨lwg_t5 13 (by decide +kernel) rfl, lwg_t1 12 (by decide +kernel) rfl, by decide +kernel, by decide +kernel, by decide⟩
set_option maxRecDepth 100000 in
theorem kX5_103 : MV RX5 103 mX5_hungriestBut 5 1 8 := ⟨RX5, TX5, rfl, by decide, lwg_t5 10 (by decide +kernel) rfl, mcX5_hungriestBut, lwg_t5 11 (by decide +kernel) rfl, lwg_t5 12 (by decide +kernel) rfl⟩
set_option maxRecDepth 100000 in
theorem mcX5_dearestBut : MC mX5_dearestBut 2 := ⟨lwg_t5 17 (by decide +kernel) rfl, lwg_t1 12 (by decide +kernel) rfl, by decide +kernel, by decide +kernel, by decide⟩
set_option maxRecDepth 100000 in
theorem kX5_106 : MV RX5 106 mX5_dearestBut 5 2 8 := ⟨RX5, TX5, rfl, by decide, lwg_t5 14 (by decide +kernel) rfl, mcX5_dearestBut, lwg_t5 15 (by decide +kernel) rfl, lwg_t5 16 (by decide +kernel) rfl⟩
set_option maxRecDepth 100000 in
theorem mcX5_paid : MC mX5_paid 2 := ⟨lwg_t5 21 (by decide +kernel) rfl, lwg_t1 12 (by decide +kernel) rfl, by decide +kernel, by decide +kernel, by decide⟩
set_option maxRecDepth 100000 in
theorem kX5_113 : MV RX5 113 mX5_paid 5 2 8 := ⟨RX5, TX5, rfl, by decide, lwg_t5 18 (by decide +kernel) rfl, mcX5_paid, lwg_t5 19 (by decide +kernel) rfl, lwg_t5 20 (by decide +kernel) rfl⟩
set_option maxRecDepth 100000 in
theorem kX5_119 : MV RX5 119 mX1_freesNow 1 2 3 := ⟨RX1, TX1, rfl, by decide, lwg_t6 109 (by decide +kernel) rfl, mcX1_freesNow, lwg_t3 73 (by decide +kernel) rfl, lwg_t3 74 (by decide +kernel) rfl⟩
set_option maxRecDepth 100000 in
theorem mcX5_pairFrom : MC mX5_pairFrom 2 := ⟨lwg_t6 113 (by decide +kernel) rfl, lwg_t1 12 (by decide +kernel) rfl, by decide +kernel, by decide +kernel, by decide⟩
set_option maxRecDepth 100000 in
theorem kX5_123 : MV RX5 123 mX5_pairFrom 5 2 8 := ⟨RX5, TX5, rfl, by decide, lwg_t6 110 (by decide +kernel) rfl, mcX5_pairFrom, lwg_t6 112 (by decide +kernel) rfl, lwg_t0 10 (by decide +kernel) rfl⟩
set_option maxRecDepth 100000 in
theorem kX5_127 : Cond.methodLink RX5 127 ⟨"java/lang/System", "arraycopy", "(Ljava/lang/Object;ILjava/lang/Object;II)V"⟩ ∈ lwg := lwg_t6 114 (by decide +kernel) rfl
set_option maxRecDepth 100000 in
theorem mcX5_hisGain : MC mX5_hisGain 2 := ⟨lwg_t6 129 (by decide +kernel) rfl, lwg_t1 12 (by decide +kernel) rfl, by decide +kernel, by decide +kernel, by decide⟩
set_option maxRecDepth 100000 in
theorem kX5_133 : MV RX5 133 mX5_hisGain 5 2 8 := ⟨RX5, TX5, rfl, by decide, lwg_t6 126 (by decide +kernel) rfl, mcX5_hisGain, lwg_t6 127 (by decide +kernel) rfl, lwg_t6 128 (by decide +kernel) rfl⟩
set_option maxRecDepth 100000 in
theorem mcX5_cookGain : MC mX5_cookGain 2 := ⟨lwg_t6 133 (by decide +kernel) rfl, lwg_t1 12 (by decide +kernel) rfl, by decide +kernel, by decide +kernel, by decide⟩
set_option maxRecDepth 100000 in
theorem kX5_136 : MV RX5 136 mX5_cookGain 5 2 8 := ⟨RX5, TX5, rfl, by decide, lwg_t6 130 (by decide +kernel) rfl, mcX5_cookGain, lwg_t6 131 (by decide +kernel) rfl, lwg_t6 132 (by decide +kernel) rfl⟩
set_option maxRecDepth 100000 in
theorem kX6_1 : Cond.methodLink RX6 1 ⟨"java/lang/Object", "<init>", "()V"⟩ ∈ lwg := lwg_t2 113 (by decide +kernel) rfl
set_option maxRecDepth 100000 in
theorem kX6_22 : MI RX6 22 mX10_init 0 := ⟨lwg_t2 116 (by decide +kernel) rfl, mcX10_init, lwg_t1 71 (by decide +kernel) rfl, rfl, rfl⟩
set_option maxRecDepth 100000 in
theorem kX6_23 : MV RX6 23 mX10_copyFrom 9 1 20 := ⟨RX10, TX10, rfl, by decide, lwg_t3 105 (by decide +kernel) rfl, mcX10_copyFrom, lwg_t3 106 (by decide +kernel) rfl, lwg_t3 107 (by decide +kernel) rfl⟩
set_option maxRecDepth 100000 in
theorem kX7_3 : Cond.methodLink RX7 3 ⟨"java/lang/Object", "<init>", "()V"⟩ ∈ lwg := lwg_t2 63 (by decide +kernel) rfl
set_option maxRecDepth 100000 in
theorem mcX7_hearAll : MC mX7_hearAll 0 := ⟨lwg_t5 132 (by decide +kernel) rfl, lwg_t1 11 (by decide +kernel) rfl, by decide +kernel, by decide +kernel, by decide⟩
set_option maxRecDepth 100000 in
theorem kX7_23 : MV RX7 23 mX7_hearAll 7 0 3 := ⟨RX7, TX7, rfl, by decide, lwg_t5 129 (by decide +kernel) rfl, mcX7_hearAll, lwg_t5 130 (by decide +kernel) rfl, lwg_t5 131 (by decide +kernel) rfl⟩
set_option maxRecDepth 100000 in
theorem mcX7_growHungry : MC mX7_growHungry 0 := ⟨lwg_t5 146 (by decide +kernel) rfl, lwg_t1 11 (by decide +kernel) rfl, by decide +kernel, by decide +kernel, by decide⟩
set_option maxRecDepth 100000 in
theorem kX7_27 : MV RX7 27 mX7_growHungry 7 0 3 := ⟨RX7, TX7, rfl, by decide, lwg_t5 143 (by decide +kernel) rfl, mcX7_growHungry, lwg_t5 144 (by decide +kernel) rfl, lwg_t5 145 (by decide +kernel) rfl⟩
set_option maxRecDepth 100000 in
theorem mcX7_drawCrumbs : MC mX7_drawCrumbs 0 := ⟨lwg_t5 151 (by decide +kernel) rfl, lwg_t1 11 (by decide +kernel) rfl, by decide +kernel, by decide +kernel, by decide⟩
set_option maxRecDepth 100000 in
theorem kX7_30 : MV RX7 30 mX7_drawCrumbs 7 0 3 := ⟨RX7, TX7, rfl, by decide, lwg_t5 148 (by decide +kernel) rfl, mcX7_drawCrumbs, lwg_t5 149 (by decide +kernel) rfl, lwg_t5 150 (by decide +kernel) rfl⟩
set_option maxRecDepth 100000 in
theorem mcX7_turnHour : MC mX7_turnHour 0 := ⟨lwg_t5 166 (by decide +kernel) rfl, lwg_t1 11 (by decide +kernel) rfl, by decide +kernel, by decide +kernel, by decide⟩
set_option maxRecDepth 100000 in
theorem kX7_33 : MV RX7 33 mX7_turnHour 7 0 3 := ⟨RX7, TX7, rfl, by decide, lwg_t5 163 (by decide +kernel) rfl, mcX7_turnHour, lwg_t5 164 (by decide +kernel) rfl, lwg_t5 165 (by decide +kernel) rfl⟩
set_option maxRecDepth 100000 in
theorem kX7_45 : MV RX7 45 mX10_waitingAt 9 2 20 := ⟨RX10, TX10, rfl, by decide, lwg_t5 133 (by decide +kernel) rfl, mcX10_waitingAt, lwg_t4 223 (by decide +kernel) rfl, lwg_t4 224 (by decide +kernel) rfl⟩
set_option maxRecDepth 100000 in
theorem kX7_49 : MV RX7 49 mX1_pointOf 1 3 3 := ⟨RX1, TX1, rfl, by decide, lwg_t5 134 (by decide +kernel) rfl, mcX1_pointOf, lwg_t5 99 (by decide +kernel) rfl, lwg_t5 100 (by decide +kernel) rfl⟩
set_option maxRecDepth 100000 in
theorem mcX7_find : MC mX7_find 3 := ⟨lwg_t5 138 (by decide +kernel) rfl, lwg_t1 11 (by decide +kernel) rfl, by decide +kernel, by decide +kernel, by decide⟩
set_option maxRecDepth 100000 in
theorem kX7_55 : MV RX7 55 mX7_find 7 3 3 := ⟨RX7, TX7, rfl, by decide, lwg_t5 135 (by decide +kernel) rfl, mcX7_find, lwg_t5 136 (by decide +kernel) rfl, lwg_t5 137 (by decide +kernel) rfl⟩
set_option maxRecDepth 100000 in
theorem mcX4_write : MC mX4_write 6 := ⟨lwg_t5 142 (by decide +kernel) rfl, lwg_t1 4 (by decide +kernel) rfl, by decide +kernel, by decide +kernel, by decide⟩
set_option maxRecDepth 100000 in
theorem kX7_75 : MV RX7 75 mX4_write 4 6 3 := ⟨RX4, TX4, rfl, by decide, lwg_t5 139 (by decide +kernel) rfl, mcX4_write, lwg_t5 140 (by decide +kernel) rfl, lwg_t5 141 (by decide +kernel) rfl⟩
set_option maxRecDepth 100000 in
theorem kX7_84 : Cond.methodLink RX7 84 ⟨"java/lang/Math", "min", "(II)I"⟩ ∈ lwg := lwg_t5 147 (by decide +kernel) rfl
set_option maxRecDepth 100000 in
theorem kX7_89 : MV RX7 89 mX1_crumbsOf 1 2 3 := ⟨RX1, TX1, rfl, by decide, lwg_t5 152 (by decide +kernel) rfl, mcX1_crumbsOf, lwg_t4 231 (by decide +kernel) rfl, lwg_t4 232 (by decide +kernel) rfl⟩
set_option maxRecDepth 100000 in
theorem mcX7_nextDraw : MC mX7_nextDraw 0 := ⟨lwg_t5 156 (by decide +kernel) rfl, lwg_t1 11 (by decide +kernel) rfl, by decide +kernel, by decide +kernel, by decide⟩
set_option maxRecDepth 100000 in
theorem kX7_92 : MV RX7 92 mX7_nextDraw 7 0 3 := ⟨RX7, TX7, rfl, by decide, lwg_t5 153 (by decide +kernel) rfl, mcX7_nextDraw, lwg_t5 154 (by decide +kernel) rfl, lwg_t5 155 (by decide +kernel) rfl⟩
set_option maxRecDepth 100000 in
theorem mcX7_undoFindings : MC mX7_undoFindings 1 := ⟨lwg_t5 161 (by decide +kernel) rfl, lwg_t1 11 (by decide +kernel) rfl, by decide +kernel, by decide +kernel, by decide⟩
set_option maxRecDepth 100000 in
theorem kX7_95 : MV RX7 95 mX7_undoFindings 7 1 3 := ⟨RX7, TX7, rfl, by decide, lwg_t5 158 (by decide +kernel) rfl, mcX7_undoFindings, lwg_t5 159 (by decide +kernel) rfl, lwg_t5 160 (by decide +kernel) rfl⟩
set_option maxRecDepth 100000 in
theorem kX7_103 : MV RX7 103 mX10_crumbling 9 1 20 := ⟨RX10, TX10, rfl, by decide, lwg_t5 162 (by decide +kernel) rfl, mcX10_crumbling, lwg_t3 37 (by decide +kernel) rfl, lwg_t3 38 (by decide +kernel) rfl⟩
set_option maxRecDepth 100000 in
theorem mcX10_takeOffAllFound : MC mX10_takeOffAllFound 0 := ⟨lwg_t5 170 (by decide +kernel) rfl, lwg_t1 3 (by decide +kernel) rfl, by decide +kernel, by decide +kernel, by decide⟩
set_option maxRecDepth 100000 in
theorem kX7_110 : MV RX7 110 mX10_takeOffAllFound 9 0 20 := ⟨RX10, TX10, rfl, by decide, lwg_t5 167 (by decide +kernel) rfl, mcX10_takeOffAllFound, lwg_t5 168 (by decide +kernel) rfl, lwg_t5 169 (by decide +kernel) rfl⟩
set_option maxRecDepth 100000 in
theorem kX8_5 : Cond.methodLink RX8 5 ⟨"java/lang/Object", "<init>", "()V"⟩ ∈ lwg := lwg_t1 44 (by decide +kernel) rfl
set_option maxRecDepth 100000 in
theorem kX8_31 : MV RX8 31 mX8_useUp 8 0 6 := ⟨RX8, TX8, rfl, by decide, lwg_t3 167 (by decide +kernel) rfl, mcX8_useUp, lwg_t3 168 (by decide +kernel) rfl, lwg_t3 169 (by decide +kernel) rfl⟩
set_option maxRecDepth 100000 in
theorem mcX8_goesOn : MC mX8_goesOn 1 := ⟨lwg_t3 174 (by decide +kernel) rfl, lwg_t1 2 (by decide +kernel) rfl, by decide +kernel, by decide +kernel, by decide⟩
set_option maxRecDepth 100000 in
theorem kX8_35 : MV RX8 35 mX8_goesOn 8 1 6 := ⟨RX8, TX8, rfl, by decide, lwg_t3 171 (by decide +kernel) rfl, mcX8_goesOn, lwg_t3 172 (by decide +kernel) rfl, lwg_t3 173 (by decide +kernel) rfl⟩
set_option maxRecDepth 100000 in
theorem mcX8_thingAt : MC mX8_thingAt 2 := ⟨lwg_t3 184 (by decide +kernel) rfl, lwg_t1 2 (by decide +kernel) rfl, by decide +kernel, by decide +kernel, by decide⟩
set_option maxRecDepth 100000 in
theorem kX8_39 : MV RX8 39 mX8_thingAt 8 2 6 := ⟨RX8, TX8, rfl, by decide, lwg_t3 181 (by decide +kernel) rfl, mcX8_thingAt, lwg_t3 182 (by decide +kernel) rfl, lwg_t3 183 (by decide +kernel) rfl⟩
set_option maxRecDepth 100000 in
theorem mcX8_isLetter : MC mX8_isLetter 1 := ⟨lwg_t3 177 (by decide +kernel) rfl, lwg_t1 2 (by decide +kernel) rfl, by decide +kernel, by decide +kernel, by decide⟩
set_option maxRecDepth 100000 in
theorem kX8_43 : MS RX8 43 mX8_isLetter 1 := ⟨lwg_t3 175 (by decide +kernel) rfl, mcX8_isLetter, lwg_t3 176 (by decide +kernel) rfl⟩
set_option maxRecDepth 100000 in
theorem mcX8_isDigit : MC mX8_isDigit 1 := ⟨lwg_t3 180 (by decide +kernel) rfl, lwg_t1 2 (by decide +kernel) rfl, by decide +kernel, by decide +kernel, by decide⟩
set_option maxRecDepth 100000 in
theorem kX8_46 : MS RX8 46 mX8_isDigit 1 := ⟨lwg_t3 178 (by decide +kernel) rfl, mcX8_isDigit, lwg_t3 179 (by decide +kernel) rfl⟩
set_option maxRecDepth 100000 in
theorem mcX8_wordOf : MC mX8_wordOf 2 := ⟨lwg_t3 188 (by decide +kernel) rfl, lwg_t1 2 (by decide +kernel) rfl, by decide +kernel, by decide +kernel, by decide⟩
set_option maxRecDepth 100000 in
theorem kX8_49 : MV RX8 49 mX8_wordOf 8 2 6 := ⟨RX8, TX8, rfl, by decide, lwg_t3 185 (by decide +kernel) rfl, mcX8_wordOf, lwg_t3 186 (by decide +kernel) rfl, lwg_t3 187 (by decide +kernel) rfl⟩
set_option maxRecDepth 100000 in
theorem mcX8_numberOf : MC mX8_numberOf 2 := ⟨lwg_t4 1 (by decide +kernel) rfl, lwg_t1 2 (by decide +kernel) rfl, by decide +kernel, by decide +kernel, by decide⟩
set_option maxRecDepth 100000 in
theorem kX8_52 : MV RX8 52 mX8_numberOf 8 2 6 := ⟨RX8, TX8, rfl, by decide, lwg_t3 238 (by decide +kernel) rfl, mcX8_numberOf, lwg_t3 239 (by decide +kernel) rfl, lwg_t4 0 (by decide +kernel) rfl⟩
set_option maxRecDepth 100000 in
theorem kX8_65 : MV RX8 65 mX8_take 8 1 6 := ⟨RX8, TX8, rfl, by decide, lwg_t4 33 (by decide +kernel) rfl, mcX8_take, lwg_t4 18 (by decide +kernel) rfl, lwg_t4 19 (by decide +kernel) rfl⟩
set_option maxRecDepth 100000 in
theorem kX8_68 : MV RX8 68 mX8_refuse 8 0 6 := ⟨RX8, TX8, rfl, by decide, lwg_t4 34 (by decide +kernel) rfl, mcX8_refuse, lwg_t4 22 (by decide +kernel) rfl, lwg_t4 23 (by decide +kernel) rfl⟩
set_option maxRecDepth 100000 in
theorem kX8_72 : MV RX8 72 mX8_needFrom 8 2 6 := ⟨RX8, TX8, rfl, by decide, lwg_t4 35 (by decide +kernel) rfl, mcX8_needFrom, lwg_t4 36 (by decide +kernel) rfl, lwg_t4 37 (by decide +kernel) rfl⟩
set_option maxRecDepth 100000 in
theorem kX8_75 : MV RX8 75 mX8_need 8 1 6 := ⟨RX8, TX8, rfl, by decide, lwg_t4 29 (by decide +kernel) rfl, mcX8_need, lwg_t4 30 (by decide +kernel) rfl, lwg_t4 31 (by decide +kernel) rfl⟩
set_option maxRecDepth 100000 in
theorem kX9_1 : Cond.methodLink RX9 1 ⟨"java/lang/Object", "<init>", "()V"⟩ ∈ lwg := lwg_t2 15 (by decide +kernel) rfl
set_option maxRecDepth 100000 in
theorem mcX8_open : MC mX8_open 0 := ⟨lwg_t3 166 (by decide +kernel) rfl, lwg_t1 2 (by decide +kernel) rfl, by decide +kernel, by decide +kernel, by decide⟩
set_option maxRecDepth 100000 in
theorem kX9_17 : MV RX9 17 mX8_open 8 0 6 := ⟨RX8, TX8, rfl, by decide, lwg_t3 163 (by decide +kernel) rfl, mcX8_open, lwg_t3 164 (by decide +kernel) rfl, lwg_t3 165 (by decide +kernel) rfl⟩
set_option maxRecDepth 100000 in
theorem kX9_22 : MV RX9 22 mX8_here 8 0 6 := ⟨RX8, TX8, rfl, by decide, lwg_t4 2 (by decide +kernel) rfl, mcX8_here, lwg_t4 3 (by decide +kernel) rfl, lwg_t4 4 (by decide +kernel) rfl⟩
set_option maxRecDepth 100000 in
theorem mcX0_readLine : MC mX0_readLine 0 := ⟨lwg_t4 11 (by decide +kernel) rfl, lwg_t1 8 (by decide +kernel) rfl, by decide +kernel, by decide +kernel, by decide⟩
set_option maxRecDepth 100000 in
theorem kX9_26_0 : MU RX9 26 mX0_readLine 0 0 3 := ⟨RX0, TX0, ⟨"HungryBench$Text", "readLine", "()Z"⟩, "HungryBench$Text", rfl, by decide, lwg_t4 6 (by decide +kernel) rfl, mcX0_readLine, lwg_t4 10 (by decide +kernel) rfl, lwg_t4 9 (by decide +kernel) rfl, lwg_t4 8 (by decide +kernel) rfl, by decide +kernel, rfl, Or.inr (lwg_t4 7 (by decide +kernel) rfl)⟩
set_option maxRecDepth 100000 in
theorem mcX3_readLine : MC mX3_readLine 0 := ⟨lwg_t4 70 (by decide +kernel) rfl, lwg_t1 9 (by decide +kernel) rfl, by decide +kernel, by decide +kernel, by decide⟩
set_option maxRecDepth 100000 in
theorem kX9_26_3 : MU RX9 26 mX3_readLine 3 0 3 := ⟨RX3, TX3, ⟨"HungryBench$Text", "readLine", "()Z"⟩, "HungryBench$Text", rfl, by decide, lwg_t4 6 (by decide +kernel) rfl, mcX3_readLine, lwg_t4 69 (by decide +kernel) rfl, lwg_t4 68 (by decide +kernel) rfl, lwg_t4 8 (by decide +kernel) rfl, by decide +kernel, rfl, Or.inr (lwg_t4 7 (by decide +kernel) rfl)⟩
set_option maxRecDepth 100000 in
theorem kX9_30 : MV RX9 30 mX8_need 8 1 6 := ⟨RX8, TX8, rfl, by decide, lwg_t4 97 (by decide +kernel) rfl, mcX8_need, lwg_t4 30 (by decide +kernel) rfl, lwg_t4 31 (by decide +kernel) rfl⟩
set_option maxRecDepth 100000 in
theorem kX9_34 : MV RX9 34 mX8_refuse 8 0 6 := ⟨RX8, TX8, rfl, by decide, lwg_t4 98 (by decide +kernel) rfl, mcX8_refuse, lwg_t4 22 (by decide +kernel) rfl, lwg_t4 23 (by decide +kernel) rfl⟩
set_option maxRecDepth 100000 in
theorem kX10_3 : Cond.methodLink RX10 3 ⟨"java/lang/Object", "<init>", "()V"⟩ ∈ lwg := lwg_t1 73 (by decide +kernel) rfl
set_option maxRecDepth 100000 in
theorem mcX4_init : MC mX4_init 0 := ⟨lwg_t1 78 (by decide +kernel) rfl, lwg_t1 4 (by decide +kernel) rfl, by decide +kernel, by decide +kernel, by decide⟩
set_option maxRecDepth 100000 in
theorem kX10_72 : MN RX10 72 mX4_init 0 := ⟨"HungryBench", lwg_t1 76 (by decide +kernel) rfl, mcX4_init, lwg_t1 77 (by decide +kernel) rfl, rfl, rfl⟩
set_option maxRecDepth 100000 in
theorem kX10_77 : MS RX10 77 mJ7_fill_53178 2 := ⟨lwg_t1 91 (by decide +kernel) rfl, mcJ7_fill_53178, lwg_t1 92 (by decide +kernel) rfl⟩
set_option maxRecDepth 100000 in
theorem kX10_83 : Cond.methodLink RX10 83 ⟨"java/lang/System", "arraycopy", "(Ljava/lang/Object;ILjava/lang/Object;II)V"⟩ ∈ lwg := lwg_t3 109 (by decide +kernel) rfl
set_option maxRecDepth 100000 in
theorem mcX4_copyFrom : MC mX4_copyFrom 1 := ⟨lwg_t3 115 (by decide +kernel) rfl, lwg_t1 4 (by decide +kernel) rfl, by decide +kernel, by decide +kernel, by decide⟩
set_option maxRecDepth 100000 in
theorem kX10_89 : MV RX10 89 mX4_copyFrom 4 1 3 := ⟨RX4, TX4, rfl, by decide, lwg_t3 112 (by decide +kernel) rfl, mcX4_copyFrom, lwg_t3 113 (by decide +kernel) rfl, lwg_t3 114 (by decide +kernel) rfl⟩
set_option maxRecDepth 100000 in
theorem kX10_93 : MV RX10 93 mX10_caseAt 9 2 20 := ⟨RX10, TX10, rfl, by decide, lwg_t4 226 (by decide +kernel) rfl, mcX10_caseAt, lwg_t4 227 (by decide +kernel) rfl, lwg_t4 228 (by decide +kernel) rfl⟩
set_option maxRecDepth 100000 in
theorem kX10_97 : MV RX10 97 mX10_placeOf 9 1 20 := ⟨RX10, TX10, rfl, by decide, lwg_t5 198 (by decide +kernel) rfl, mcX10_placeOf, lwg_t4 57 (by decide +kernel) rfl, lwg_t4 58 (by decide +kernel) rfl⟩
set_option maxRecDepth 100000 in
theorem kX10_101 : MV RX10 101 mX10_inState 9 1 20 := ⟨RX10, TX10, rfl, by decide, lwg_t3 40 (by decide +kernel) rfl, mcX10_inState, lwg_t2 232 (by decide +kernel) rfl, lwg_t2 233 (by decide +kernel) rfl⟩
set_option maxRecDepth 100000 in
theorem kX10_104 : MV RX10 104 mX10_leaningOn 9 1 20 := ⟨RX10, TX10, rfl, by decide, lwg_t3 41 (by decide +kernel) rfl, mcX10_leaningOn, lwg_t3 42 (by decide +kernel) rfl, lwg_t3 43 (by decide +kernel) rfl⟩
set_option maxRecDepth 100000 in
theorem mcX11_assize : MC mX11_assize 0 := ⟨lwg_t3 156 (by decide +kernel) rfl, lwg_t1 1 (by decide +kernel) rfl, by decide +kernel, by decide +kernel, by decide⟩
set_option maxRecDepth 100000 in
theorem kL_7 : MV RL 7 mX11_assize 10 0 16 := ⟨RX11, TX11, rfl, by decide, lwg_t3 153 (by decide +kernel) rfl, mcX11_assize, lwg_t3 154 (by decide +kernel) rfl, lwg_t3 155 (by decide +kernel) rfl⟩
set_option maxRecDepth 100000 in
theorem mcX11_law : MC mX11_law 0 := ⟨lwg_t4 186 (by decide +kernel) rfl, lwg_t1 1 (by decide +kernel) rfl, by decide +kernel, by decide +kernel, by decide⟩
set_option maxRecDepth 100000 in
theorem kL_17 : MV RL 17 mX11_law 10 0 16 := ⟨RX11, TX11, rfl, by decide, lwg_t4 183 (by decide +kernel) rfl, mcX11_law, lwg_t4 184 (by decide +kernel) rfl, lwg_t4 185 (by decide +kernel) rfl⟩
set_option maxRecDepth 100000 in
theorem mcX11_judge : MC mX11_judge 2 := ⟨lwg_t4 202 (by decide +kernel) rfl, lwg_t1 1 (by decide +kernel) rfl, by decide +kernel, by decide +kernel, by decide⟩
set_option maxRecDepth 100000 in
theorem kL_20 : MV RL 20 mX11_judge 10 2 16 := ⟨RX11, TX11, rfl, by decide, lwg_t4 199 (by decide +kernel) rfl, mcX11_judge, lwg_t4 200 (by decide +kernel) rfl, lwg_t4 201 (by decide +kernel) rfl⟩
set_option maxRecDepth 100000 in
theorem mcX11_cause : MC mX11_cause 2 := ⟨lwg_t5 43 (by decide +kernel) rfl, lwg_t1 1 (by decide +kernel) rfl, by decide +kernel, by decide +kernel, by decide⟩
set_option maxRecDepth 100000 in
theorem kL_28 : MV RL 28 mX11_cause 10 2 16 := ⟨RX11, TX11, rfl, by decide, lwg_t5 40 (by decide +kernel) rfl, mcX11_cause, lwg_t5 41 (by decide +kernel) rfl, lwg_t5 42 (by decide +kernel) rfl⟩
set_option maxRecDepth 100000 in
theorem mcX11_listed : MC mX11_listed 2 := ⟨lwg_t5 78 (by decide +kernel) rfl, lwg_t1 1 (by decide +kernel) rfl, by decide +kernel, by decide +kernel, by decide⟩
set_option maxRecDepth 100000 in
theorem kL_31 : MV RL 31 mX11_listed 10 2 16 := ⟨RX11, TX11, rfl, by decide, lwg_t5 75 (by decide +kernel) rfl, mcX11_listed, lwg_t5 76 (by decide +kernel) rfl, lwg_t5 77 (by decide +kernel) rfl⟩
set_option maxRecDepth 100000 in
theorem mcX11_smell : MC mX11_smell 1 := ⟨lwg_t5 90 (by decide +kernel) rfl, lwg_t1 1 (by decide +kernel) rfl, by decide +kernel, by decide +kernel, by decide⟩
set_option maxRecDepth 100000 in
theorem kL_34 : MV RL 34 mX11_smell 10 1 16 := ⟨RX11, TX11, rfl, by decide, lwg_t5 87 (by decide +kernel) rfl, mcX11_smell, lwg_t5 88 (by decide +kernel) rfl, lwg_t5 89 (by decide +kernel) rfl⟩
set_option maxRecDepth 100000 in
theorem mcX11_point : MC mX11_point 3 := ⟨lwg_t5 97 (by decide +kernel) rfl, lwg_t1 1 (by decide +kernel) rfl, by decide +kernel, by decide +kernel, by decide⟩
set_option maxRecDepth 100000 in
theorem kL_38 : MV RL 38 mX11_point 10 3 16 := ⟨RX11, TX11, rfl, by decide, lwg_t5 94 (by decide +kernel) rfl, mcX11_point, lwg_t5 95 (by decide +kernel) rfl, lwg_t5 96 (by decide +kernel) rfl⟩
set_option maxRecDepth 100000 in
theorem mcX11_would : MC mX11_would 3 := ⟨lwg_t5 108 (by decide +kernel) rfl, lwg_t1 1 (by decide +kernel) rfl, by decide +kernel, by decide +kernel, by decide⟩
set_option maxRecDepth 100000 in
theorem kL_42 : MV RL 42 mX11_would 10 3 16 := ⟨RX11, TX11, rfl, by decide, lwg_t5 105 (by decide +kernel) rfl, mcX11_would, lwg_t5 106 (by decide +kernel) rfl, lwg_t5 107 (by decide +kernel) rfl⟩
set_option maxRecDepth 100000 in
theorem mcX11_hours : MC mX11_hours 1 := ⟨lwg_t5 116 (by decide +kernel) rfl, lwg_t1 1 (by decide +kernel) rfl, by decide +kernel, by decide +kernel, by decide⟩
set_option maxRecDepth 100000 in
theorem kL_45 : MV RL 45 mX11_hours 10 1 16 := ⟨RX11, TX11, rfl, by decide, lwg_t5 113 (by decide +kernel) rfl, mcX11_hours, lwg_t5 114 (by decide +kernel) rfl, lwg_t5 115 (by decide +kernel) rfl⟩
set_option maxRecDepth 100000 in
theorem mcX11_list : MC mX11_list 3 := ⟨lwg_t5 178 (by decide +kernel) rfl, lwg_t1 1 (by decide +kernel) rfl, by decide +kernel, by decide +kernel, by decide⟩
set_option maxRecDepth 100000 in
theorem kL_48 : MV RL 48 mX11_list 10 3 16 := ⟨RX11, TX11, rfl, by decide, lwg_t5 175 (by decide +kernel) rfl, mcX11_list, lwg_t5 176 (by decide +kernel) rfl, lwg_t5 177 (by decide +kernel) rfl⟩
set_option maxRecDepth 100000 in
theorem mcX11_strike : MC mX11_strike 2 := ⟨lwg_t5 206 (by decide +kernel) rfl, lwg_t1 1 (by decide +kernel) rfl, by decide +kernel, by decide +kernel, by decide⟩
set_option maxRecDepth 100000 in
theorem kL_53 : MV RL 53 mX11_strike 10 2 16 := ⟨RX11, TX11, rfl, by decide, lwg_t5 203 (by decide +kernel) rfl, mcX11_strike, lwg_t5 204 (by decide +kernel) rfl, lwg_t5 205 (by decide +kernel) rfl⟩
set_option maxRecDepth 100000 in
theorem mcX11_feeds : MC mX11_feeds 1 := ⟨lwg_t5 213 (by decide +kernel) rfl, lwg_t1 1 (by decide +kernel) rfl, by decide +kernel, by decide +kernel, by decide⟩
set_option maxRecDepth 100000 in
theorem kL_56 : MV RL 56 mX11_feeds 10 1 16 := ⟨RX11, TX11, rfl, by decide, lwg_t5 210 (by decide +kernel) rfl, mcX11_feeds, lwg_t5 211 (by decide +kernel) rfl, lwg_t5 212 (by decide +kernel) rfl⟩
set_option maxRecDepth 100000 in
theorem mcX11_fast : MC mX11_fast 2 := ⟨lwg_t5 220 (by decide +kernel) rfl, lwg_t1 1 (by decide +kernel) rfl, by decide +kernel, by decide +kernel, by decide⟩
set_option maxRecDepth 100000 in
theorem kL_59 : MV RL 59 mX11_fast 10 2 16 := ⟨RX11, TX11, rfl, by decide, lwg_t5 217 (by decide +kernel) rfl, mcX11_fast, lwg_t5 218 (by decide +kernel) rfl, lwg_t5 219 (by decide +kernel) rfl⟩
set_option maxRecDepth 100000 in
theorem mcX11_inn : MC mX11_inn 2 := ⟨lwg_t5 227 (by decide +kernel) rfl, lwg_t1 1 (by decide +kernel) rfl, by decide +kernel, by decide +kernel, by decide⟩
set_option maxRecDepth 100000 in
theorem kL_62 : MV RL 62 mX11_inn 10 2 16 := ⟨RX11, TX11, rfl, by decide, lwg_t5 224 (by decide +kernel) rfl, mcX11_inn, lwg_t5 225 (by decide +kernel) rfl, lwg_t5 226 (by decide +kernel) rfl⟩
set_option maxRecDepth 100000 in
theorem mcX11_appeal : MC mX11_appeal 1 := ⟨lwg_t5 234 (by decide +kernel) rfl, lwg_t1 1 (by decide +kernel) rfl, by decide +kernel, by decide +kernel, by decide⟩
set_option maxRecDepth 100000 in
theorem kL_65 : MV RL 65 mX11_appeal 10 1 16 := ⟨RX11, TX11, rfl, by decide, lwg_t5 231 (by decide +kernel) rfl, mcX11_appeal, lwg_t5 232 (by decide +kernel) rfl, lwg_t5 233 (by decide +kernel) rfl⟩
set_option maxRecDepth 100000 in
theorem mcX11_grave : MC mX11_grave 2 := ⟨lwg_t6 1 (by decide +kernel) rfl, lwg_t1 1 (by decide +kernel) rfl, by decide +kernel, by decide +kernel, by decide⟩
set_option maxRecDepth 100000 in
theorem kL_68 : MV RL 68 mX11_grave 10 2 16 := ⟨RX11, TX11, rfl, by decide, lwg_t5 238 (by decide +kernel) rfl, mcX11_grave, lwg_t5 239 (by decide +kernel) rfl, lwg_t6 0 (by decide +kernel) rfl⟩
set_option maxRecDepth 100000 in
theorem mcX11_early : MC mX11_early 2 := ⟨lwg_t6 8 (by decide +kernel) rfl, lwg_t1 1 (by decide +kernel) rfl, by decide +kernel, by decide +kernel, by decide⟩
set_option maxRecDepth 100000 in
theorem kL_71 : MV RL 71 mX11_early 10 2 16 := ⟨RX11, TX11, rfl, by decide, lwg_t6 5 (by decide +kernel) rfl, mcX11_early, lwg_t6 6 (by decide +kernel) rfl, lwg_t6 7 (by decide +kernel) rfl⟩
set_option maxRecDepth 100000 in
theorem mcX11_split : MC mX11_split 1 := ⟨lwg_t6 16 (by decide +kernel) rfl, lwg_t1 1 (by decide +kernel) rfl, by decide +kernel, by decide +kernel, by decide⟩
set_option maxRecDepth 100000 in
theorem kL_74 : MV RL 74 mX11_split 10 1 16 := ⟨RX11, TX11, rfl, by decide, lwg_t6 13 (by decide +kernel) rfl, mcX11_split, lwg_t6 14 (by decide +kernel) rfl, lwg_t6 15 (by decide +kernel) rfl⟩
set_option maxRecDepth 100000 in
theorem mcX11_crumbles : MC mX11_crumbles 1 := ⟨lwg_t6 23 (by decide +kernel) rfl, lwg_t1 1 (by decide +kernel) rfl, by decide +kernel, by decide +kernel, by decide⟩
set_option maxRecDepth 100000 in
theorem kL_78 : MV RL 78 mX11_crumbles 10 1 16 := ⟨RX11, TX11, rfl, by decide, lwg_t6 20 (by decide +kernel) rfl, mcX11_crumbles, lwg_t6 21 (by decide +kernel) rfl, lwg_t6 22 (by decide +kernel) rfl⟩
set_option maxRecDepth 100000 in
theorem mcX11_meals : MC mX11_meals 2 := ⟨lwg_t6 30 (by decide +kernel) rfl, lwg_t1 1 (by decide +kernel) rfl, by decide +kernel, by decide +kernel, by decide⟩
set_option maxRecDepth 100000 in
theorem kL_81 : MV RL 81 mX11_meals 10 2 16 := ⟨RX11, TX11, rfl, by decide, lwg_t6 27 (by decide +kernel) rfl, mcX11_meals, lwg_t6 28 (by decide +kernel) rfl, lwg_t6 29 (by decide +kernel) rfl⟩
set_option maxRecDepth 100000 in
theorem mcX11_tries : MC mX11_tries 1 := ⟨lwg_t6 55 (by decide +kernel) rfl, lwg_t1 1 (by decide +kernel) rfl, by decide +kernel, by decide +kernel, by decide⟩
set_option maxRecDepth 100000 in
theorem kL_85 : MV RL 85 mX11_tries 10 1 16 := ⟨RX11, TX11, rfl, by decide, lwg_t6 52 (by decide +kernel) rfl, mcX11_tries, lwg_t6 53 (by decide +kernel) rfl, lwg_t6 54 (by decide +kernel) rfl⟩
set_option maxRecDepth 100000 in
theorem mcX11_moved : MC mX11_moved 2 := ⟨lwg_t6 71 (by decide +kernel) rfl, lwg_t1 1 (by decide +kernel) rfl, by decide +kernel, by decide +kernel, by decide⟩
set_option maxRecDepth 100000 in
theorem kL_88 : MV RL 88 mX11_moved 10 2 16 := ⟨RX11, TX11, rfl, by decide, lwg_t6 68 (by decide +kernel) rfl, mcX11_moved, lwg_t6 69 (by decide +kernel) rfl, lwg_t6 70 (by decide +kernel) rfl⟩
set_option maxRecDepth 100000 in
theorem mcX11_even : MC mX11_even 2 := ⟨lwg_t6 82 (by decide +kernel) rfl, lwg_t1 1 (by decide +kernel) rfl, by decide +kernel, by decide +kernel, by decide⟩
set_option maxRecDepth 100000 in
theorem kL_91 : MV RL 91 mX11_even 10 2 16 := ⟨RX11, TX11, rfl, by decide, lwg_t6 79 (by decide +kernel) rfl, mcX11_even, lwg_t6 80 (by decide +kernel) rfl, lwg_t6 81 (by decide +kernel) rfl⟩
set_option maxRecDepth 100000 in
theorem mcX11_rather : MC mX11_rather 2 := ⟨lwg_t6 93 (by decide +kernel) rfl, lwg_t1 1 (by decide +kernel) rfl, by decide +kernel, by decide +kernel, by decide⟩
set_option maxRecDepth 100000 in
theorem kL_94 : MV RL 94 mX11_rather 10 2 16 := ⟨RX11, TX11, rfl, by decide, lwg_t6 90 (by decide +kernel) rfl, mcX11_rather, lwg_t6 91 (by decide +kernel) rfl, lwg_t6 92 (by decide +kernel) rfl⟩
set_option maxRecDepth 100000 in
theorem mcX11_pairs : MC mX11_pairs 1 := ⟨lwg_t6 104 (by decide +kernel) rfl, lwg_t1 1 (by decide +kernel) rfl, by decide +kernel, by decide +kernel, by decide⟩
set_option maxRecDepth 100000 in
theorem kL_97 : MV RL 97 mX11_pairs 10 1 16 := ⟨RX11, TX11, rfl, by decide, lwg_t6 101 (by decide +kernel) rfl, mcX11_pairs, lwg_t6 102 (by decide +kernel) rfl, lwg_t6 103 (by decide +kernel) rfl⟩
set_option maxRecDepth 100000 in
theorem mcX11_rests : MC mX11_rests 1 := ⟨lwg_t6 121 (by decide +kernel) rfl, lwg_t1 1 (by decide +kernel) rfl, by decide +kernel, by decide +kernel, by decide⟩
set_option maxRecDepth 100000 in
theorem kL_100 : MV RL 100 mX11_rests 10 1 16 := ⟨RX11, TX11, rfl, by decide, lwg_t6 118 (by decide +kernel) rfl, mcX11_rests, lwg_t6 119 (by decide +kernel) rfl, lwg_t6 120 (by decide +kernel) rfl⟩
set_option maxRecDepth 100000 in
theorem mcX11_odds : MC mX11_odds 2 := ⟨lwg_t6 140 (by decide +kernel) rfl, lwg_t1 1 (by decide +kernel) rfl, by decide +kernel, by decide +kernel, by decide⟩
set_option maxRecDepth 100000 in
theorem kL_103 : MV RL 103 mX11_odds 10 2 16 := ⟨RX11, TX11, rfl, by decide, lwg_t6 137 (by decide +kernel) rfl, mcX11_odds, lwg_t6 138 (by decide +kernel) rfl, lwg_t6 139 (by decide +kernel) rfl⟩
set_option maxRecDepth 100000 in
theorem mcX11_kind : MC mX11_kind 1 := ⟨lwg_t6 147 (by decide +kernel) rfl, lwg_t1 1 (by decide +kernel) rfl, by decide +kernel, by decide +kernel, by decide⟩
set_option maxRecDepth 100000 in
theorem kL_106 : MV RL 106 mX11_kind 10 1 16 := ⟨RX11, TX11, rfl, by decide, lwg_t6 144 (by decide +kernel) rfl, mcX11_kind, lwg_t6 145 (by decide +kernel) rfl, lwg_t6 146 (by decide +kernel) rfl⟩
set_option maxRecDepth 100000 in
theorem mcX11_state : MC mX11_state 1 := ⟨lwg_t6 154 (by decide +kernel) rfl, lwg_t1 1 (by decide +kernel) rfl, by decide +kernel, by decide +kernel, by decide⟩
set_option maxRecDepth 100000 in
theorem kL_109 : MV RL 109 mX11_state 10 1 16 := ⟨RX11, TX11, rfl, by decide, lwg_t6 151 (by decide +kernel) rfl, mcX11_state, lwg_t6 152 (by decide +kernel) rfl, lwg_t6 153 (by decide +kernel) rfl⟩
set_option maxRecDepth 100000 in
theorem mcX11_ahead : MC mX11_ahead 2 := ⟨lwg_t6 161 (by decide +kernel) rfl, lwg_t1 1 (by decide +kernel) rfl, by decide +kernel, by decide +kernel, by decide⟩
set_option maxRecDepth 100000 in
theorem kL_112 : MV RL 112 mX11_ahead 10 2 16 := ⟨RX11, TX11, rfl, by decide, lwg_t6 158 (by decide +kernel) rfl, mcX11_ahead, lwg_t6 159 (by decide +kernel) rfl, lwg_t6 160 (by decide +kernel) rfl⟩
set_option maxRecDepth 100000 in
theorem mcX11_trial : MC mX11_trial 2 := ⟨lwg_t6 168 (by decide +kernel) rfl, lwg_t1 1 (by decide +kernel) rfl, by decide +kernel, by decide +kernel, by decide⟩
set_option maxRecDepth 100000 in
theorem kL_115 : MV RL 115 mX11_trial 10 2 16 := ⟨RX11, TX11, rfl, by decide, lwg_t6 165 (by decide +kernel) rfl, mcX11_trial, lwg_t6 166 (by decide +kernel) rfl, lwg_t6 167 (by decide +kernel) rfl⟩
set_option maxRecDepth 100000 in
theorem mcX11_span : MC mX11_span 2 := ⟨lwg_t6 179 (by decide +kernel) rfl, lwg_t1 1 (by decide +kernel) rfl, by decide +kernel, by decide +kernel, by decide⟩
set_option maxRecDepth 100000 in
theorem kL_118 : MV RL 118 mX11_span 10 2 16 := ⟨RX11, TX11, rfl, by decide, lwg_t6 176 (by decide +kernel) rfl, mcX11_span, lwg_t6 177 (by decide +kernel) rfl, lwg_t6 178 (by decide +kernel) rfl⟩
set_option maxRecDepth 100000 in
theorem mcX11_led : MC mX11_led 2 := ⟨lwg_t6 187 (by decide +kernel) rfl, lwg_t1 1 (by decide +kernel) rfl, by decide +kernel, by decide +kernel, by decide⟩
set_option maxRecDepth 100000 in
theorem kL_121 : MV RL 121 mX11_led 10 2 16 := ⟨RX11, TX11, rfl, by decide, lwg_t6 184 (by decide +kernel) rfl, mcX11_led, lwg_t6 185 (by decide +kernel) rfl, lwg_t6 186 (by decide +kernel) rfl⟩
set_option maxRecDepth 100000 in
theorem mcX11_log : MC mX11_log 2 := ⟨lwg_t6 206 (by decide +kernel) rfl, lwg_t1 1 (by decide +kernel) rfl, by decide +kernel, by decide +kernel, by decide⟩
set_option maxRecDepth 100000 in
theorem kL_124 : MV RL 124 mX11_log 10 2 16 := ⟨RX11, TX11, rfl, by decide, lwg_t6 203 (by decide +kernel) rfl, mcX11_log, lwg_t6 204 (by decide +kernel) rfl, lwg_t6 205 (by decide +kernel) rfl⟩
set_option maxRecDepth 100000 in
theorem mcX11_init : MC mX11_init 0 := ⟨lwg_t1 35 (by decide +kernel) rfl, lwg_t1 1 (by decide +kernel) rfl, by decide +kernel, by decide +kernel, by decide⟩
set_option maxRecDepth 100000 in
theorem kL_127 : MI RL 127 mX11_init 0 := ⟨lwg_t1 33 (by decide +kernel) rfl, mcX11_init, lwg_t1 34 (by decide +kernel) rfl, rfl, rfl⟩
set_option maxRecDepth 100000 in
theorem mcX12_init : MC mX12_init 0 := ⟨lwg_t6 216 (by decide +kernel) rfl, lwg_t1 14 (by decide +kernel) rfl, by decide +kernel, by decide +kernel, by decide⟩
set_option maxRecDepth 100000 in
theorem kL_130 : MI RL 130 mX12_init 0 := ⟨lwg_t6 214 (by decide +kernel) rfl, mcX12_init, lwg_t6 215 (by decide +kernel) rfl, rfl, rfl⟩
set_option maxRecDepth 100000 in
theorem mcX11_feed : MC mX11_feed 5 := ⟨lwg_t2 180 (by decide +kernel) rfl, lwg_t1 1 (by decide +kernel) rfl, by decide +kernel, by decide +kernel, by decide⟩
set_option maxRecDepth 100000 in
theorem kL_131 : MV RL 131 mX11_feed 10 5 16 := ⟨RX11, TX11, rfl, by decide, lwg_t2 177 (by decide +kernel) rfl, mcX11_feed, lwg_t2 178 (by decide +kernel) rfl, lwg_t2 179 (by decide +kernel) rfl⟩
set_option maxRecDepth 100000 in
theorem mcX12_feed : MC mX12_feed 5 := ⟨lwg_t7 88 (by decide +kernel) rfl, lwg_t1 14 (by decide +kernel) rfl, by decide +kernel, by decide +kernel, by decide⟩
set_option maxRecDepth 100000 in
theorem kL_135 : MV RL 135 mX12_feed 11 5 31 := ⟨RX12, TX12, rfl, by decide, lwg_t7 85 (by decide +kernel) rfl, mcX12_feed, lwg_t7 86 (by decide +kernel) rfl, lwg_t7 87 (by decide +kernel) rfl⟩
set_option maxRecDepth 100000 in
theorem mcX11_end : MC mX11_end 1 := ⟨lwg_t2 188 (by decide +kernel) rfl, lwg_t1 1 (by decide +kernel) rfl, by decide +kernel, by decide +kernel, by decide⟩
set_option maxRecDepth 100000 in
theorem kL_136 : MV RL 136 mX11_end 10 1 16 := ⟨RX11, TX11, rfl, by decide, lwg_t2 185 (by decide +kernel) rfl, mcX11_end, lwg_t2 186 (by decide +kernel) rfl, lwg_t2 187 (by decide +kernel) rfl⟩
set_option maxRecDepth 100000 in
theorem mcX12_end : MC mX12_end 1 := ⟨lwg_t7 92 (by decide +kernel) rfl, lwg_t1 14 (by decide +kernel) rfl, by decide +kernel, by decide +kernel, by decide⟩
set_option maxRecDepth 100000 in
theorem kL_139 : MV RL 139 mX12_end 11 1 31 := ⟨RX12, TX12, rfl, by decide, lwg_t7 89 (by decide +kernel) rfl, mcX12_end, lwg_t7 90 (by decide +kernel) rfl, lwg_t7 91 (by decide +kernel) rfl⟩
set_option maxRecDepth 100000 in
theorem mcL_assize : MCH mL_assize 2 := ⟨lwg_t3 150 (by decide +kernel) rfl, lwg_t1 0 (by decide +kernel) rfl, by decide +kernel, by decide +kernel, by decide⟩
set_option maxRecDepth 100000 in
theorem kL_140 : Cond.methodLink RL 140 yL_assize ∈ lwg ∧ MCH mL_assize 2 ∧ Cond.static yL_assize ∈ lwg := ⟨lwg_t3 148 (by decide +kernel) rfl, mcL_assize, lwg_t3 149 (by decide +kernel) rfl⟩
set_option maxRecDepth 100000 in
theorem mcX12_assize : MC mX12_assize 0 := ⟨lwg_t7 100 (by decide +kernel) rfl, lwg_t1 14 (by decide +kernel) rfl, by decide +kernel, by decide +kernel, by decide⟩
set_option maxRecDepth 100000 in
theorem kL_145 : MV RL 145 mX12_assize 11 0 31 := ⟨RX12, TX12, rfl, by decide, lwg_t7 97 (by decide +kernel) rfl, mcX12_assize, lwg_t7 98 (by decide +kernel) rfl, lwg_t7 99 (by decide +kernel) rfl⟩
set_option maxRecDepth 100000 in
theorem mcX12_thrown : MC mX12_thrown 0 := ⟨lwg_t6 211 (by decide +kernel) rfl, lwg_t1 14 (by decide +kernel) rfl, by decide +kernel, by decide +kernel, by decide⟩
set_option maxRecDepth 100000 in
theorem kL_146 : MV RL 146 mX12_thrown 11 0 31 := ⟨RX12, TX12, rfl, by decide, lwg_t6 208 (by decide +kernel) rfl, mcX12_thrown, lwg_t6 209 (by decide +kernel) rfl, lwg_t6 210 (by decide +kernel) rfl⟩
set_option maxRecDepth 100000 in
theorem mcL_law : MCH mL_law 2 := ⟨lwg_t4 182 (by decide +kernel) rfl, lwg_t1 0 (by decide +kernel) rfl, by decide +kernel, by decide +kernel, by decide⟩
set_option maxRecDepth 100000 in
theorem kL_149 : Cond.methodLink RL 149 yL_law ∈ lwg ∧ MCH mL_law 2 ∧ Cond.static yL_law ∈ lwg := ⟨lwg_t4 180 (by decide +kernel) rfl, mcL_law, lwg_t4 181 (by decide +kernel) rfl⟩
set_option maxRecDepth 100000 in
theorem mcX12_law : MC mX12_law 0 := ⟨lwg_t8 24 (by decide +kernel) rfl, lwg_t1 14 (by decide +kernel) rfl, by decide +kernel, by decide +kernel, by decide⟩
set_option maxRecDepth 100000 in
theorem kL_151 : MV RL 151 mX12_law 11 0 31 := ⟨RX12, TX12, rfl, by decide, lwg_t8 21 (by decide +kernel) rfl, mcX12_law, lwg_t8 22 (by decide +kernel) rfl, lwg_t8 23 (by decide +kernel) rfl⟩
set_option maxRecDepth 100000 in
theorem mcX11_fault : MC mX11_fault 0 := ⟨lwg_t2 192 (by decide +kernel) rfl, lwg_t1 1 (by decide +kernel) rfl, by decide +kernel, by decide +kernel, by decide⟩
set_option maxRecDepth 100000 in
theorem kL_152 : MV RL 152 mX11_fault 10 0 16 := ⟨RX11, TX11, rfl, by decide, lwg_t2 189 (by decide +kernel) rfl, mcX11_fault, lwg_t2 190 (by decide +kernel) rfl, lwg_t2 191 (by decide +kernel) rfl⟩
set_option maxRecDepth 100000 in
theorem mcX12_fault : MC mX12_fault 0 := ⟨lwg_t7 96 (by decide +kernel) rfl, lwg_t1 14 (by decide +kernel) rfl, by decide +kernel, by decide +kernel, by decide⟩
set_option maxRecDepth 100000 in
theorem kL_155 : MV RL 155 mX12_fault 11 0 31 := ⟨RX12, TX12, rfl, by decide, lwg_t7 93 (by decide +kernel) rfl, mcX12_fault, lwg_t7 94 (by decide +kernel) rfl, lwg_t7 95 (by decide +kernel) rfl⟩
set_option maxRecDepth 100000 in
theorem mcL_judge : MCH mL_judge 4 := ⟨lwg_t4 196 (by decide +kernel) rfl, lwg_t1 0 (by decide +kernel) rfl, by decide +kernel, by decide +kernel, by decide⟩
set_option maxRecDepth 100000 in
theorem kL_156 : Cond.methodLink RL 156 yL_judge ∈ lwg ∧ MCH mL_judge 4 ∧ Cond.static yL_judge ∈ lwg := ⟨lwg_t4 194 (by decide +kernel) rfl, mcL_judge, lwg_t4 195 (by decide +kernel) rfl⟩
set_option maxRecDepth 100000 in
theorem mcX12_judge : MC mX12_judge 2 := ⟨lwg_t8 141 (by decide +kernel) rfl, lwg_t1 14 (by decide +kernel) rfl, by decide +kernel, by decide +kernel, by decide⟩
set_option maxRecDepth 100000 in
theorem kL_159 : MV RL 159 mX12_judge 11 2 31 := ⟨RX12, TX12, rfl, by decide, lwg_t8 138 (by decide +kernel) rfl, mcX12_judge, lwg_t8 139 (by decide +kernel) rfl, lwg_t8 140 (by decide +kernel) rfl⟩
set_option maxRecDepth 100000 in
theorem mcL_cause : MCH mL_cause 4 := ⟨lwg_t5 39 (by decide +kernel) rfl, lwg_t1 0 (by decide +kernel) rfl, by decide +kernel, by decide +kernel, by decide⟩
set_option maxRecDepth 100000 in
theorem kL_160 : Cond.methodLink RL 160 yL_cause ∈ lwg ∧ MCH mL_cause 4 ∧ Cond.static yL_cause ∈ lwg := ⟨lwg_t5 37 (by decide +kernel) rfl, mcL_cause, lwg_t5 38 (by decide +kernel) rfl⟩
set_option maxRecDepth 100000 in
theorem mcX12_cause : MC mX12_cause 2 := ⟨lwg_t8 190 (by decide +kernel) rfl, lwg_t1 14 (by decide +kernel) rfl, by decide +kernel, by decide +kernel, by decide⟩
set_option maxRecDepth 100000 in
theorem kL_162 : MV RL 162 mX12_cause 11 2 31 := ⟨RX12, TX12, rfl, by decide, lwg_t8 187 (by decide +kernel) rfl, mcX12_cause, lwg_t8 188 (by decide +kernel) rfl, lwg_t8 189 (by decide +kernel) rfl⟩
set_option maxRecDepth 100000 in
theorem mcL_listed : MCH mL_listed 4 := ⟨lwg_t5 74 (by decide +kernel) rfl, lwg_t1 0 (by decide +kernel) rfl, by decide +kernel, by decide +kernel, by decide⟩
set_option maxRecDepth 100000 in
theorem kL_163 : Cond.methodLink RL 163 yL_listed ∈ lwg ∧ MCH mL_listed 4 ∧ Cond.static yL_listed ∈ lwg := ⟨lwg_t5 72 (by decide +kernel) rfl, mcL_listed, lwg_t5 73 (by decide +kernel) rfl⟩
set_option maxRecDepth 100000 in
theorem mcX12_listed : MC mX12_listed 2 := ⟨lwg_t8 218 (by decide +kernel) rfl, lwg_t1 14 (by decide +kernel) rfl, by decide +kernel, by decide +kernel, by decide⟩
set_option maxRecDepth 100000 in
theorem kL_165 : MV RL 165 mX12_listed 11 2 31 := ⟨RX12, TX12, rfl, by decide, lwg_t8 215 (by decide +kernel) rfl, mcX12_listed, lwg_t8 216 (by decide +kernel) rfl, lwg_t8 217 (by decide +kernel) rfl⟩
set_option maxRecDepth 100000 in
theorem mcL_smell : MCH mL_smell 3 := ⟨lwg_t5 86 (by decide +kernel) rfl, lwg_t1 0 (by decide +kernel) rfl, by decide +kernel, by decide +kernel, by decide⟩
set_option maxRecDepth 100000 in
theorem kL_166 : Cond.methodLink RL 166 yL_smell ∈ lwg ∧ MCH mL_smell 3 ∧ Cond.static yL_smell ∈ lwg := ⟨lwg_t5 84 (by decide +kernel) rfl, mcL_smell, lwg_t5 85 (by decide +kernel) rfl⟩
set_option maxRecDepth 100000 in
theorem mcX12_smell : MC mX12_smell 1 := ⟨lwg_t8 225 (by decide +kernel) rfl, lwg_t1 14 (by decide +kernel) rfl, by decide +kernel, by decide +kernel, by decide⟩
set_option maxRecDepth 100000 in
theorem kL_169 : MV RL 169 mX12_smell 11 1 31 := ⟨RX12, TX12, rfl, by decide, lwg_t8 222 (by decide +kernel) rfl, mcX12_smell, lwg_t8 223 (by decide +kernel) rfl, lwg_t8 224 (by decide +kernel) rfl⟩
set_option maxRecDepth 100000 in
theorem mcL_point : MCH mL_point 5 := ⟨lwg_t5 93 (by decide +kernel) rfl, lwg_t1 0 (by decide +kernel) rfl, by decide +kernel, by decide +kernel, by decide⟩
set_option maxRecDepth 100000 in
theorem kL_170 : Cond.methodLink RL 170 yL_point ∈ lwg ∧ MCH mL_point 5 ∧ Cond.static yL_point ∈ lwg := ⟨lwg_t5 91 (by decide +kernel) rfl, mcL_point, lwg_t5 92 (by decide +kernel) rfl⟩
set_option maxRecDepth 100000 in
theorem mcX12_point : MC mX12_point 3 := ⟨lwg_t8 229 (by decide +kernel) rfl, lwg_t1 14 (by decide +kernel) rfl, by decide +kernel, by decide +kernel, by decide⟩
set_option maxRecDepth 100000 in
theorem kL_173 : MV RL 173 mX12_point 11 3 31 := ⟨RX12, TX12, rfl, by decide, lwg_t8 226 (by decide +kernel) rfl, mcX12_point, lwg_t8 227 (by decide +kernel) rfl, lwg_t8 228 (by decide +kernel) rfl⟩
set_option maxRecDepth 100000 in
theorem mcL_would : MCH mL_would 5 := ⟨lwg_t5 104 (by decide +kernel) rfl, lwg_t1 0 (by decide +kernel) rfl, by decide +kernel, by decide +kernel, by decide⟩
set_option maxRecDepth 100000 in
theorem kL_174 : Cond.methodLink RL 174 yL_would ∈ lwg ∧ MCH mL_would 5 ∧ Cond.static yL_would ∈ lwg := ⟨lwg_t5 102 (by decide +kernel) rfl, mcL_would, lwg_t5 103 (by decide +kernel) rfl⟩
set_option maxRecDepth 100000 in
theorem mcX12_would : MC mX12_would 3 := ⟨lwg_t8 233 (by decide +kernel) rfl, lwg_t1 14 (by decide +kernel) rfl, by decide +kernel, by decide +kernel, by decide⟩
set_option maxRecDepth 100000 in
theorem kL_176 : MV RL 176 mX12_would 11 3 31 := ⟨RX12, TX12, rfl, by decide, lwg_t8 230 (by decide +kernel) rfl, mcX12_would, lwg_t8 231 (by decide +kernel) rfl, lwg_t8 232 (by decide +kernel) rfl⟩
set_option maxRecDepth 100000 in
theorem mcL_hours : MCH mL_hours 3 := ⟨lwg_t5 112 (by decide +kernel) rfl, lwg_t1 0 (by decide +kernel) rfl, by decide +kernel, by decide +kernel, by decide⟩
set_option maxRecDepth 100000 in
theorem kL_177 : Cond.methodLink RL 177 yL_hours ∈ lwg ∧ MCH mL_hours 3 ∧ Cond.static yL_hours ∈ lwg := ⟨lwg_t5 110 (by decide +kernel) rfl, mcL_hours, lwg_t5 111 (by decide +kernel) rfl⟩
set_option maxRecDepth 100000 in
theorem mcX12_hours : MC mX12_hours 1 := ⟨lwg_t8 28 (by decide +kernel) rfl, lwg_t1 14 (by decide +kernel) rfl, by decide +kernel, by decide +kernel, by decide⟩
set_option maxRecDepth 100000 in
theorem kL_179 : MV RL 179 mX12_hours 11 1 31 := ⟨RX12, TX12, rfl, by decide, lwg_t8 25 (by decide +kernel) rfl, mcX12_hours, lwg_t8 26 (by decide +kernel) rfl, lwg_t8 27 (by decide +kernel) rfl⟩
set_option maxRecDepth 100000 in
theorem mcL_list : MCH mL_list 5 := ⟨lwg_t5 173 (by decide +kernel) rfl, lwg_t1 0 (by decide +kernel) rfl, by decide +kernel, by decide +kernel, by decide⟩
set_option maxRecDepth 100000 in
theorem kL_180 : Cond.methodLink RL 180 yL_list ∈ lwg ∧ MCH mL_list 5 ∧ Cond.static yL_list ∈ lwg := ⟨lwg_t5 171 (by decide +kernel) rfl, mcL_list, lwg_t5 172 (by decide +kernel) rfl⟩
set_option maxRecDepth 100000 in
theorem mcX12_list : MC mX12_list 3 := ⟨lwg_t8 237 (by decide +kernel) rfl, lwg_t1 14 (by decide +kernel) rfl, by decide +kernel, by decide +kernel, by decide⟩
set_option maxRecDepth 100000 in
theorem kL_182 : MV RL 182 mX12_list 11 3 31 := ⟨RX12, TX12, rfl, by decide, lwg_t8 234 (by decide +kernel) rfl, mcX12_list, lwg_t8 235 (by decide +kernel) rfl, lwg_t8 236 (by decide +kernel) rfl⟩
set_option maxRecDepth 100000 in
theorem mcL_strike : MCH mL_strike 4 := ⟨lwg_t5 202 (by decide +kernel) rfl, lwg_t1 0 (by decide +kernel) rfl, by decide +kernel, by decide +kernel, by decide⟩
set_option maxRecDepth 100000 in
theorem kL_183 : Cond.methodLink RL 183 yL_strike ∈ lwg ∧ MCH mL_strike 4 ∧ Cond.static yL_strike ∈ lwg := ⟨lwg_t5 200 (by decide +kernel) rfl, mcL_strike, lwg_t5 201 (by decide +kernel) rfl⟩
set_option maxRecDepth 100000 in
theorem mcX12_strike : MC mX12_strike 2 := ⟨lwg_t9 1 (by decide +kernel) rfl, lwg_t1 14 (by decide +kernel) rfl, by decide +kernel, by decide +kernel, by decide⟩
set_option maxRecDepth 100000 in
theorem kL_185 : MV RL 185 mX12_strike 11 2 31 := ⟨RX12, TX12, rfl, by decide, lwg_t8 238 (by decide +kernel) rfl, mcX12_strike, lwg_t8 239 (by decide +kernel) rfl, lwg_t9 0 (by decide +kernel) rfl⟩
set_option maxRecDepth 100000 in
theorem mcL_feeds : MCH mL_feeds 3 := ⟨lwg_t5 209 (by decide +kernel) rfl, lwg_t1 0 (by decide +kernel) rfl, by decide +kernel, by decide +kernel, by decide⟩
set_option maxRecDepth 100000 in
theorem kL_186 : Cond.methodLink RL 186 yL_feeds ∈ lwg ∧ MCH mL_feeds 3 ∧ Cond.static yL_feeds ∈ lwg := ⟨lwg_t5 207 (by decide +kernel) rfl, mcL_feeds, lwg_t5 208 (by decide +kernel) rfl⟩
set_option maxRecDepth 100000 in
theorem mcX12_feeds : MC mX12_feeds 1 := ⟨lwg_t9 9 (by decide +kernel) rfl, lwg_t1 14 (by decide +kernel) rfl, by decide +kernel, by decide +kernel, by decide⟩
set_option maxRecDepth 100000 in
theorem kL_188 : MV RL 188 mX12_feeds 11 1 31 := ⟨RX12, TX12, rfl, by decide, lwg_t9 6 (by decide +kernel) rfl, mcX12_feeds, lwg_t9 7 (by decide +kernel) rfl, lwg_t9 8 (by decide +kernel) rfl⟩
set_option maxRecDepth 100000 in
theorem mcL_fast : MCH mL_fast 4 := ⟨lwg_t5 216 (by decide +kernel) rfl, lwg_t1 0 (by decide +kernel) rfl, by decide +kernel, by decide +kernel, by decide⟩
set_option maxRecDepth 100000 in
theorem kL_189 : Cond.methodLink RL 189 yL_fast ∈ lwg ∧ MCH mL_fast 4 ∧ Cond.static yL_fast ∈ lwg := ⟨lwg_t5 214 (by decide +kernel) rfl, mcL_fast, lwg_t5 215 (by decide +kernel) rfl⟩
set_option maxRecDepth 100000 in
theorem mcX12_fast : MC mX12_fast 2 := ⟨lwg_t9 13 (by decide +kernel) rfl, lwg_t1 14 (by decide +kernel) rfl, by decide +kernel, by decide +kernel, by decide⟩
set_option maxRecDepth 100000 in
theorem kL_191 : MV RL 191 mX12_fast 11 2 31 := ⟨RX12, TX12, rfl, by decide, lwg_t9 10 (by decide +kernel) rfl, mcX12_fast, lwg_t9 11 (by decide +kernel) rfl, lwg_t9 12 (by decide +kernel) rfl⟩
set_option maxRecDepth 100000 in
theorem mcL_inn : MCH mL_inn 4 := ⟨lwg_t5 223 (by decide +kernel) rfl, lwg_t1 0 (by decide +kernel) rfl, by decide +kernel, by decide +kernel, by decide⟩
set_option maxRecDepth 100000 in
theorem kL_192 : Cond.methodLink RL 192 yL_inn ∈ lwg ∧ MCH mL_inn 4 ∧ Cond.static yL_inn ∈ lwg := ⟨lwg_t5 221 (by decide +kernel) rfl, mcL_inn, lwg_t5 222 (by decide +kernel) rfl⟩
set_option maxRecDepth 100000 in
theorem mcX12_inn : MC mX12_inn 2 := ⟨lwg_t9 17 (by decide +kernel) rfl, lwg_t1 14 (by decide +kernel) rfl, by decide +kernel, by decide +kernel, by decide⟩
set_option maxRecDepth 100000 in
theorem kL_194 : MV RL 194 mX12_inn 11 2 31 := ⟨RX12, TX12, rfl, by decide, lwg_t9 14 (by decide +kernel) rfl, mcX12_inn, lwg_t9 15 (by decide +kernel) rfl, lwg_t9 16 (by decide +kernel) rfl⟩
set_option maxRecDepth 100000 in
theorem mcL_appeal : MCH mL_appeal 3 := ⟨lwg_t5 230 (by decide +kernel) rfl, lwg_t1 0 (by decide +kernel) rfl, by decide +kernel, by decide +kernel, by decide⟩
set_option maxRecDepth 100000 in
theorem kL_195 : Cond.methodLink RL 195 yL_appeal ∈ lwg ∧ MCH mL_appeal 3 ∧ Cond.static yL_appeal ∈ lwg := ⟨lwg_t5 228 (by decide +kernel) rfl, mcL_appeal, lwg_t5 229 (by decide +kernel) rfl⟩
set_option maxRecDepth 100000 in
theorem mcX12_appeal : MC mX12_appeal 1 := ⟨lwg_t9 21 (by decide +kernel) rfl, lwg_t1 14 (by decide +kernel) rfl, by decide +kernel, by decide +kernel, by decide⟩
set_option maxRecDepth 100000 in
theorem kL_197 : MV RL 197 mX12_appeal 11 1 31 := ⟨RX12, TX12, rfl, by decide, lwg_t9 18 (by decide +kernel) rfl, mcX12_appeal, lwg_t9 19 (by decide +kernel) rfl, lwg_t9 20 (by decide +kernel) rfl⟩
set_option maxRecDepth 100000 in
theorem mcL_grave : MCH mL_grave 4 := ⟨lwg_t5 237 (by decide +kernel) rfl, lwg_t1 0 (by decide +kernel) rfl, by decide +kernel, by decide +kernel, by decide⟩
set_option maxRecDepth 100000 in
theorem kL_198 : Cond.methodLink RL 198 yL_grave ∈ lwg ∧ MCH mL_grave 4 ∧ Cond.static yL_grave ∈ lwg := ⟨lwg_t5 235 (by decide +kernel) rfl, mcL_grave, lwg_t5 236 (by decide +kernel) rfl⟩
set_option maxRecDepth 100000 in
theorem mcX12_grave : MC mX12_grave 2 := ⟨lwg_t9 25 (by decide +kernel) rfl, lwg_t1 14 (by decide +kernel) rfl, by decide +kernel, by decide +kernel, by decide⟩
set_option maxRecDepth 100000 in
theorem kL_200 : MV RL 200 mX12_grave 11 2 31 := ⟨RX12, TX12, rfl, by decide, lwg_t9 22 (by decide +kernel) rfl, mcX12_grave, lwg_t9 23 (by decide +kernel) rfl, lwg_t9 24 (by decide +kernel) rfl⟩
set_option maxRecDepth 100000 in
theorem mcL_early : MCH mL_early 4 := ⟨lwg_t6 4 (by decide +kernel) rfl, lwg_t1 0 (by decide +kernel) rfl, by decide +kernel, by decide +kernel, by decide⟩
set_option maxRecDepth 100000 in
theorem kL_201 : Cond.methodLink RL 201 yL_early ∈ lwg ∧ MCH mL_early 4 ∧ Cond.static yL_early ∈ lwg := ⟨lwg_t6 2 (by decide +kernel) rfl, mcL_early, lwg_t6 3 (by decide +kernel) rfl⟩
set_option maxRecDepth 100000 in
theorem mcX12_early : MC mX12_early 2 := ⟨lwg_t9 29 (by decide +kernel) rfl, lwg_t1 14 (by decide +kernel) rfl, by decide +kernel, by decide +kernel, by decide⟩
set_option maxRecDepth 100000 in
theorem kL_203 : MV RL 203 mX12_early 11 2 31 := ⟨RX12, TX12, rfl, by decide, lwg_t9 26 (by decide +kernel) rfl, mcX12_early, lwg_t9 27 (by decide +kernel) rfl, lwg_t9 28 (by decide +kernel) rfl⟩
set_option maxRecDepth 100000 in
theorem mcL_split : MCH mL_split 3 := ⟨lwg_t6 12 (by decide +kernel) rfl, lwg_t1 0 (by decide +kernel) rfl, by decide +kernel, by decide +kernel, by decide⟩
set_option maxRecDepth 100000 in
theorem kL_204 : Cond.methodLink RL 204 yL_split ∈ lwg ∧ MCH mL_split 3 ∧ Cond.static yL_split ∈ lwg := ⟨lwg_t6 10 (by decide +kernel) rfl, mcL_split, lwg_t6 11 (by decide +kernel) rfl⟩
set_option maxRecDepth 100000 in
theorem mcX12_split : MC mX12_split 1 := ⟨lwg_t9 37 (by decide +kernel) rfl, lwg_t1 14 (by decide +kernel) rfl, by decide +kernel, by decide +kernel, by decide⟩
set_option maxRecDepth 100000 in
theorem kL_206 : MV RL 206 mX12_split 11 1 31 := ⟨RX12, TX12, rfl, by decide, lwg_t9 34 (by decide +kernel) rfl, mcX12_split, lwg_t9 35 (by decide +kernel) rfl, lwg_t9 36 (by decide +kernel) rfl⟩
set_option maxRecDepth 100000 in
theorem mcX11_saved : MC mX11_saved 1 := ⟨lwg_t2 196 (by decide +kernel) rfl, lwg_t1 1 (by decide +kernel) rfl, by decide +kernel, by decide +kernel, by decide⟩
set_option maxRecDepth 100000 in
theorem kL_207 : MV RL 207 mX11_saved 10 1 16 := ⟨RX11, TX11, rfl, by decide, lwg_t2 193 (by decide +kernel) rfl, mcX11_saved, lwg_t2 194 (by decide +kernel) rfl, lwg_t2 195 (by decide +kernel) rfl⟩
set_option maxRecDepth 100000 in
theorem mcX12_saved : MC mX12_saved 1 := ⟨lwg_t9 49 (by decide +kernel) rfl, lwg_t1 14 (by decide +kernel) rfl, by decide +kernel, by decide +kernel, by decide⟩
set_option maxRecDepth 100000 in
theorem kL_211 : MV RL 211 mX12_saved 11 1 31 := ⟨RX12, TX12, rfl, by decide, lwg_t9 46 (by decide +kernel) rfl, mcX12_saved, lwg_t9 47 (by decide +kernel) rfl, lwg_t9 48 (by decide +kernel) rfl⟩
set_option maxRecDepth 100000 in
theorem mcX11_needed : MC mX11_needed 0 := ⟨lwg_t3 27 (by decide +kernel) rfl, lwg_t1 1 (by decide +kernel) rfl, by decide +kernel, by decide +kernel, by decide⟩
set_option maxRecDepth 100000 in
theorem kL_212 : MV RL 212 mX11_needed 10 0 16 := ⟨RX11, TX11, rfl, by decide, lwg_t3 24 (by decide +kernel) rfl, mcX11_needed, lwg_t3 25 (by decide +kernel) rfl, lwg_t3 26 (by decide +kernel) rfl⟩
set_option maxRecDepth 100000 in
theorem mcX12_needed : MC mX12_needed 0 := ⟨lwg_t9 69 (by decide +kernel) rfl, lwg_t1 14 (by decide +kernel) rfl, by decide +kernel, by decide +kernel, by decide⟩
set_option maxRecDepth 100000 in
theorem kL_215 : MV RL 215 mX12_needed 11 0 31 := ⟨RX12, TX12, rfl, by decide, lwg_t9 66 (by decide +kernel) rfl, mcX12_needed, lwg_t9 67 (by decide +kernel) rfl, lwg_t9 68 (by decide +kernel) rfl⟩
set_option maxRecDepth 100000 in
theorem mcL_crumbles : MCH mL_crumbles 3 := ⟨lwg_t6 19 (by decide +kernel) rfl, lwg_t1 0 (by decide +kernel) rfl, by decide +kernel, by decide +kernel, by decide⟩
set_option maxRecDepth 100000 in
theorem kL_216 : Cond.methodLink RL 216 yL_crumbles ∈ lwg ∧ MCH mL_crumbles 3 ∧ Cond.static yL_crumbles ∈ lwg := ⟨lwg_t6 17 (by decide +kernel) rfl, mcL_crumbles, lwg_t6 18 (by decide +kernel) rfl⟩
set_option maxRecDepth 100000 in
theorem mcX12_crumbles : MC mX12_crumbles 1 := ⟨lwg_t9 77 (by decide +kernel) rfl, lwg_t1 14 (by decide +kernel) rfl, by decide +kernel, by decide +kernel, by decide⟩
set_option maxRecDepth 100000 in
theorem kL_218 : MV RL 218 mX12_crumbles 11 1 31 := ⟨RX12, TX12, rfl, by decide, lwg_t9 74 (by decide +kernel) rfl, mcX12_crumbles, lwg_t9 75 (by decide +kernel) rfl, lwg_t9 76 (by decide +kernel) rfl⟩
set_option maxRecDepth 100000 in
theorem mcX11_worst : MC mX11_worst 0 := ⟨lwg_t3 35 (by decide +kernel) rfl, lwg_t1 1 (by decide +kernel) rfl, by decide +kernel, by decide +kernel, by decide⟩
set_option maxRecDepth 100000 in
theorem kL_219 : MV RL 219 mX11_worst 10 0 16 := ⟨RX11, TX11, rfl, by decide, lwg_t3 32 (by decide +kernel) rfl, mcX11_worst, lwg_t3 33 (by decide +kernel) rfl, lwg_t3 34 (by decide +kernel) rfl⟩
set_option maxRecDepth 100000 in
theorem mcX12_worst : MC mX12_worst 0 := ⟨lwg_t9 81 (by decide +kernel) rfl, lwg_t1 14 (by decide +kernel) rfl, by decide +kernel, by decide +kernel, by decide⟩
set_option maxRecDepth 100000 in
theorem kL_222 : MV RL 222 mX12_worst 11 0 31 := ⟨RX12, TX12, rfl, by decide, lwg_t9 78 (by decide +kernel) rfl, mcX12_worst, lwg_t9 79 (by decide +kernel) rfl, lwg_t9 80 (by decide +kernel) rfl⟩
set_option maxRecDepth 100000 in
theorem mcX11_deep : MC mX11_deep 0 := ⟨lwg_t3 49 (by decide +kernel) rfl, lwg_t1 1 (by decide +kernel) rfl, by decide +kernel, by decide +kernel, by decide⟩
set_option maxRecDepth 100000 in
theorem kL_223 : MV RL 223 mX11_deep 10 0 16 := ⟨RX11, TX11, rfl, by decide, lwg_t3 46 (by decide +kernel) rfl, mcX11_deep, lwg_t3 47 (by decide +kernel) rfl, lwg_t3 48 (by decide +kernel) rfl⟩
set_option maxRecDepth 100000 in
theorem mcX12_deep : MC mX12_deep 0 := ⟨lwg_t9 85 (by decide +kernel) rfl, lwg_t1 14 (by decide +kernel) rfl, by decide +kernel, by decide +kernel, by decide⟩
set_option maxRecDepth 100000 in
theorem kL_226 : MV RL 226 mX12_deep 11 0 31 := ⟨RX12, TX12, rfl, by decide, lwg_t9 82 (by decide +kernel) rfl, mcX12_deep, lwg_t9 83 (by decide +kernel) rfl, lwg_t9 84 (by decide +kernel) rfl⟩
set_option maxRecDepth 100000 in
theorem mcX11_roots : MC mX11_roots 0 := ⟨lwg_t3 58 (by decide +kernel) rfl, lwg_t1 1 (by decide +kernel) rfl, by decide +kernel, by decide +kernel, by decide⟩
set_option maxRecDepth 100000 in
theorem kL_227 : MV RL 227 mX11_roots 10 0 16 := ⟨RX11, TX11, rfl, by decide, lwg_t3 55 (by decide +kernel) rfl, mcX11_roots, lwg_t3 56 (by decide +kernel) rfl, lwg_t3 57 (by decide +kernel) rfl⟩
set_option maxRecDepth 100000 in
theorem mcX12_roots : MC mX12_roots 0 := ⟨lwg_t9 89 (by decide +kernel) rfl, lwg_t1 14 (by decide +kernel) rfl, by decide +kernel, by decide +kernel, by decide⟩
set_option maxRecDepth 100000 in
theorem kL_230 : MV RL 230 mX12_roots 11 0 31 := ⟨RX12, TX12, rfl, by decide, lwg_t9 86 (by decide +kernel) rfl, mcX12_roots, lwg_t9 87 (by decide +kernel) rfl, lwg_t9 88 (by decide +kernel) rfl⟩
set_option maxRecDepth 100000 in
theorem mcL_meals : MCH mL_meals 4 := ⟨lwg_t6 26 (by decide +kernel) rfl, lwg_t1 0 (by decide +kernel) rfl, by decide +kernel, by decide +kernel, by decide⟩
set_option maxRecDepth 100000 in
theorem kL_231 : Cond.methodLink RL 231 yL_meals ∈ lwg ∧ MCH mL_meals 4 ∧ Cond.static yL_meals ∈ lwg := ⟨lwg_t6 24 (by decide +kernel) rfl, mcL_meals, lwg_t6 25 (by decide +kernel) rfl⟩
set_option maxRecDepth 100000 in
theorem mcX12_meals : MC mX12_meals 2 := ⟨lwg_t9 93 (by decide +kernel) rfl, lwg_t1 14 (by decide +kernel) rfl, by decide +kernel, by decide +kernel, by decide⟩
set_option maxRecDepth 100000 in
theorem kL_234 : MV RL 234 mX12_meals 11 2 31 := ⟨RX12, TX12, rfl, by decide, lwg_t9 90 (by decide +kernel) rfl, mcX12_meals, lwg_t9 91 (by decide +kernel) rfl, lwg_t9 92 (by decide +kernel) rfl⟩
set_option maxRecDepth 100000 in
theorem mcL_tries : MCH mL_tries 3 := ⟨lwg_t6 51 (by decide +kernel) rfl, lwg_t1 0 (by decide +kernel) rfl, by decide +kernel, by decide +kernel, by decide⟩
set_option maxRecDepth 100000 in
theorem kL_235 : Cond.methodLink RL 235 yL_tries ∈ lwg ∧ MCH mL_tries 3 ∧ Cond.static yL_tries ∈ lwg := ⟨lwg_t6 49 (by decide +kernel) rfl, mcL_tries, lwg_t6 50 (by decide +kernel) rfl⟩
set_option maxRecDepth 100000 in
theorem mcX12_tries : MC mX12_tries 1 := ⟨lwg_t9 109 (by decide +kernel) rfl, lwg_t1 14 (by decide +kernel) rfl, by decide +kernel, by decide +kernel, by decide⟩
set_option maxRecDepth 100000 in
theorem kL_237 : MV RL 237 mX12_tries 11 1 31 := ⟨RX12, TX12, rfl, by decide, lwg_t9 106 (by decide +kernel) rfl, mcX12_tries, lwg_t9 107 (by decide +kernel) rfl, lwg_t9 108 (by decide +kernel) rfl⟩
set_option maxRecDepth 100000 in
theorem mcL_moved : MCH mL_moved 4 := ⟨lwg_t6 67 (by decide +kernel) rfl, lwg_t1 0 (by decide +kernel) rfl, by decide +kernel, by decide +kernel, by decide⟩
set_option maxRecDepth 100000 in
theorem kL_238 : Cond.methodLink RL 238 yL_moved ∈ lwg ∧ MCH mL_moved 4 ∧ Cond.static yL_moved ∈ lwg := ⟨lwg_t6 65 (by decide +kernel) rfl, mcL_moved, lwg_t6 66 (by decide +kernel) rfl⟩
set_option maxRecDepth 100000 in
theorem mcX12_moved : MC mX12_moved 2 := ⟨lwg_t9 41 (by decide +kernel) rfl, lwg_t1 14 (by decide +kernel) rfl, by decide +kernel, by decide +kernel, by decide⟩
set_option maxRecDepth 100000 in
theorem kL_240 : MV RL 240 mX12_moved 11 2 31 := ⟨RX12, TX12, rfl, by decide, lwg_t9 38 (by decide +kernel) rfl, mcX12_moved, lwg_t9 39 (by decide +kernel) rfl, lwg_t9 40 (by decide +kernel) rfl⟩
set_option maxRecDepth 100000 in
theorem mcL_even : MCH mL_even 4 := ⟨lwg_t6 78 (by decide +kernel) rfl, lwg_t1 0 (by decide +kernel) rfl, by decide +kernel, by decide +kernel, by decide⟩
set_option maxRecDepth 100000 in
theorem kL_241 : Cond.methodLink RL 241 yL_even ∈ lwg ∧ MCH mL_even 4 ∧ Cond.static yL_even ∈ lwg := ⟨lwg_t6 76 (by decide +kernel) rfl, mcL_even, lwg_t6 77 (by decide +kernel) rfl⟩
set_option maxRecDepth 100000 in
theorem mcX12_even : MC mX12_even 2 := ⟨lwg_t9 45 (by decide +kernel) rfl, lwg_t1 14 (by decide +kernel) rfl, by decide +kernel, by decide +kernel, by decide⟩
set_option maxRecDepth 100000 in
theorem kL_243 : MV RL 243 mX12_even 11 2 31 := ⟨RX12, TX12, rfl, by decide, lwg_t9 42 (by decide +kernel) rfl, mcX12_even, lwg_t9 43 (by decide +kernel) rfl, lwg_t9 44 (by decide +kernel) rfl⟩
set_option maxRecDepth 100000 in
theorem mcL_rather : MCH mL_rather 4 := ⟨lwg_t6 89 (by decide +kernel) rfl, lwg_t1 0 (by decide +kernel) rfl, by decide +kernel, by decide +kernel, by decide⟩
set_option maxRecDepth 100000 in
theorem kL_244 : Cond.methodLink RL 244 yL_rather ∈ lwg ∧ MCH mL_rather 4 ∧ Cond.static yL_rather ∈ lwg := ⟨lwg_t6 87 (by decide +kernel) rfl, mcL_rather, lwg_t6 88 (by decide +kernel) rfl⟩
set_option maxRecDepth 100000 in
theorem mcX12_rather : MC mX12_rather 2 := ⟨lwg_t9 113 (by decide +kernel) rfl, lwg_t1 14 (by decide +kernel) rfl, by decide +kernel, by decide +kernel, by decide⟩
set_option maxRecDepth 100000 in
theorem kL_246 : MV RL 246 mX12_rather 11 2 31 := ⟨RX12, TX12, rfl, by decide, lwg_t9 110 (by decide +kernel) rfl, mcX12_rather, lwg_t9 111 (by decide +kernel) rfl, lwg_t9 112 (by decide +kernel) rfl⟩
set_option maxRecDepth 100000 in
theorem mcX11_worth : MC mX11_worth 0 := ⟨lwg_t3 63 (by decide +kernel) rfl, lwg_t1 1 (by decide +kernel) rfl, by decide +kernel, by decide +kernel, by decide⟩
set_option maxRecDepth 100000 in
theorem kL_247 : MV RL 247 mX11_worth 10 0 16 := ⟨RX11, TX11, rfl, by decide, lwg_t3 60 (by decide +kernel) rfl, mcX11_worth, lwg_t3 61 (by decide +kernel) rfl, lwg_t3 62 (by decide +kernel) rfl⟩
set_option maxRecDepth 100000 in
theorem mcX12_worth : MC mX12_worth 0 := ⟨lwg_t9 117 (by decide +kernel) rfl, lwg_t1 14 (by decide +kernel) rfl, by decide +kernel, by decide +kernel, by decide⟩
set_option maxRecDepth 100000 in
theorem kL_250 : MV RL 250 mX12_worth 11 0 31 := ⟨RX12, TX12, rfl, by decide, lwg_t9 114 (by decide +kernel) rfl, mcX12_worth, lwg_t9 115 (by decide +kernel) rfl, lwg_t9 116 (by decide +kernel) rfl⟩
set_option maxRecDepth 100000 in
theorem mcL_pairs : MCH mL_pairs 3 := ⟨lwg_t6 100 (by decide +kernel) rfl, lwg_t1 0 (by decide +kernel) rfl, by decide +kernel, by decide +kernel, by decide⟩
set_option maxRecDepth 100000 in
theorem kL_251 : Cond.methodLink RL 251 yL_pairs ∈ lwg ∧ MCH mL_pairs 3 ∧ Cond.static yL_pairs ∈ lwg := ⟨lwg_t6 98 (by decide +kernel) rfl, mcL_pairs, lwg_t6 99 (by decide +kernel) rfl⟩
set_option maxRecDepth 100000 in
theorem mcX12_pairs : MC mX12_pairs 1 := ⟨lwg_t9 122 (by decide +kernel) rfl, lwg_t1 14 (by decide +kernel) rfl, by decide +kernel, by decide +kernel, by decide⟩
set_option maxRecDepth 100000 in
theorem kL_253 : MV RL 253 mX12_pairs 11 1 31 := ⟨RX12, TX12, rfl, by decide, lwg_t9 119 (by decide +kernel) rfl, mcX12_pairs, lwg_t9 120 (by decide +kernel) rfl, lwg_t9 121 (by decide +kernel) rfl⟩
set_option maxRecDepth 100000 in
theorem mcX11_agree : MC mX11_agree 0 := ⟨lwg_t3 79 (by decide +kernel) rfl, lwg_t1 1 (by decide +kernel) rfl, by decide +kernel, by decide +kernel, by decide⟩
set_option maxRecDepth 100000 in
theorem kL_254 : MV RL 254 mX11_agree 10 0 16 := ⟨RX11, TX11, rfl, by decide, lwg_t3 76 (by decide +kernel) rfl, mcX11_agree, lwg_t3 77 (by decide +kernel) rfl, lwg_t3 78 (by decide +kernel) rfl⟩
set_option maxRecDepth 100000 in
theorem mcX12_agree : MC mX12_agree 0 := ⟨lwg_t9 145 (by decide +kernel) rfl, lwg_t1 14 (by decide +kernel) rfl, by decide +kernel, by decide +kernel, by decide⟩
set_option maxRecDepth 100000 in
theorem kL_257 : MV RL 257 mX12_agree 11 0 31 := ⟨RX12, TX12, rfl, by decide, lwg_t9 142 (by decide +kernel) rfl, mcX12_agree, lwg_t9 143 (by decide +kernel) rfl, lwg_t9 144 (by decide +kernel) rfl⟩
set_option maxRecDepth 100000 in
theorem mcL_rests : MCH mL_rests 3 := ⟨lwg_t6 117 (by decide +kernel) rfl, lwg_t1 0 (by decide +kernel) rfl, by decide +kernel, by decide +kernel, by decide⟩
set_option maxRecDepth 100000 in
theorem kL_258 : Cond.methodLink RL 258 yL_rests ∈ lwg ∧ MCH mL_rests 3 ∧ Cond.static yL_rests ∈ lwg := ⟨lwg_t6 115 (by decide +kernel) rfl, mcL_rests, lwg_t6 116 (by decide +kernel) rfl⟩
set_option maxRecDepth 100000 in
theorem mcX12_rests : MC mX12_rests 1 := ⟨lwg_t9 153 (by decide +kernel) rfl, lwg_t1 14 (by decide +kernel) rfl, by decide +kernel, by decide +kernel, by decide⟩
set_option maxRecDepth 100000 in
theorem kL_260 : MV RL 260 mX12_rests 11 1 31 := ⟨RX12, TX12, rfl, by decide, lwg_t9 150 (by decide +kernel) rfl, mcX12_rests, lwg_t9 151 (by decide +kernel) rfl, lwg_t9 152 (by decide +kernel) rfl⟩
set_option maxRecDepth 100000 in
theorem mcL_odds : MCH mL_odds 4 := ⟨lwg_t6 136 (by decide +kernel) rfl, lwg_t1 0 (by decide +kernel) rfl, by decide +kernel, by decide +kernel, by decide⟩
set_option maxRecDepth 100000 in
theorem kL_261 : Cond.methodLink RL 261 yL_odds ∈ lwg ∧ MCH mL_odds 4 ∧ Cond.static yL_odds ∈ lwg := ⟨lwg_t6 134 (by decide +kernel) rfl, mcL_odds, lwg_t6 135 (by decide +kernel) rfl⟩
set_option maxRecDepth 100000 in
theorem mcX12_odds : MC mX12_odds 2 := ⟨lwg_t9 165 (by decide +kernel) rfl, lwg_t1 14 (by decide +kernel) rfl, by decide +kernel, by decide +kernel, by decide⟩
set_option maxRecDepth 100000 in
theorem kL_263 : MV RL 263 mX12_odds 11 2 31 := ⟨RX12, TX12, rfl, by decide, lwg_t9 162 (by decide +kernel) rfl, mcX12_odds, lwg_t9 163 (by decide +kernel) rfl, lwg_t9 164 (by decide +kernel) rfl⟩
set_option maxRecDepth 100000 in
theorem mcX11_hungriest : MC mX11_hungriest 0 := ⟨lwg_t3 84 (by decide +kernel) rfl, lwg_t1 1 (by decide +kernel) rfl, by decide +kernel, by decide +kernel, by decide⟩
set_option maxRecDepth 100000 in
theorem kL_264 : MV RL 264 mX11_hungriest 10 0 16 := ⟨RX11, TX11, rfl, by decide, lwg_t3 81 (by decide +kernel) rfl, mcX11_hungriest, lwg_t3 82 (by decide +kernel) rfl, lwg_t3 83 (by decide +kernel) rfl⟩
set_option maxRecDepth 100000 in
theorem mcX12_hungriest : MC mX12_hungriest 0 := ⟨lwg_t9 169 (by decide +kernel) rfl, lwg_t1 14 (by decide +kernel) rfl, by decide +kernel, by decide +kernel, by decide⟩
set_option maxRecDepth 100000 in
theorem kL_267 : MV RL 267 mX12_hungriest 11 0 31 := ⟨RX12, TX12, rfl, by decide, lwg_t9 166 (by decide +kernel) rfl, mcX12_hungriest, lwg_t9 167 (by decide +kernel) rfl, lwg_t9 168 (by decide +kernel) rfl⟩
set_option maxRecDepth 100000 in
theorem mcX11_gravest : MC mX11_gravest 0 := ⟨lwg_t3 88 (by decide +kernel) rfl, lwg_t1 1 (by decide +kernel) rfl, by decide +kernel, by decide +kernel, by decide⟩
set_option maxRecDepth 100000 in
theorem kL_268 : MV RL 268 mX11_gravest 10 0 16 := ⟨RX11, TX11, rfl, by decide, lwg_t3 85 (by decide +kernel) rfl, mcX11_gravest, lwg_t3 86 (by decide +kernel) rfl, lwg_t3 87 (by decide +kernel) rfl⟩
set_option maxRecDepth 100000 in
theorem mcX12_gravest : MC mX12_gravest 0 := ⟨lwg_t9 173 (by decide +kernel) rfl, lwg_t1 14 (by decide +kernel) rfl, by decide +kernel, by decide +kernel, by decide⟩
set_option maxRecDepth 100000 in
theorem kL_271 : MV RL 271 mX12_gravest 11 0 31 := ⟨RX12, TX12, rfl, by decide, lwg_t9 170 (by decide +kernel) rfl, mcX12_gravest, lwg_t9 171 (by decide +kernel) rfl, lwg_t9 172 (by decide +kernel) rfl⟩
set_option maxRecDepth 100000 in
theorem mcL_kind : MCH mL_kind 3 := ⟨lwg_t6 143 (by decide +kernel) rfl, lwg_t1 0 (by decide +kernel) rfl, by decide +kernel, by decide +kernel, by decide⟩
set_option maxRecDepth 100000 in
theorem kL_272 : Cond.methodLink RL 272 yL_kind ∈ lwg ∧ MCH mL_kind 3 ∧ Cond.static yL_kind ∈ lwg := ⟨lwg_t6 141 (by decide +kernel) rfl, mcL_kind, lwg_t6 142 (by decide +kernel) rfl⟩
set_option maxRecDepth 100000 in
theorem mcX12_kind : MC mX12_kind 1 := ⟨lwg_t9 177 (by decide +kernel) rfl, lwg_t1 14 (by decide +kernel) rfl, by decide +kernel, by decide +kernel, by decide⟩
set_option maxRecDepth 100000 in
theorem kL_274 : MV RL 274 mX12_kind 11 1 31 := ⟨RX12, TX12, rfl, by decide, lwg_t9 174 (by decide +kernel) rfl, mcX12_kind, lwg_t9 175 (by decide +kernel) rfl, lwg_t9 176 (by decide +kernel) rfl⟩
set_option maxRecDepth 100000 in
theorem mcL_state : MCH mL_state 3 := ⟨lwg_t6 150 (by decide +kernel) rfl, lwg_t1 0 (by decide +kernel) rfl, by decide +kernel, by decide +kernel, by decide⟩
set_option maxRecDepth 100000 in
theorem kL_275 : Cond.methodLink RL 275 yL_state ∈ lwg ∧ MCH mL_state 3 ∧ Cond.static yL_state ∈ lwg := ⟨lwg_t6 148 (by decide +kernel) rfl, mcL_state, lwg_t6 149 (by decide +kernel) rfl⟩
set_option maxRecDepth 100000 in
theorem mcX12_state : MC mX12_state 1 := ⟨lwg_t9 181 (by decide +kernel) rfl, lwg_t1 14 (by decide +kernel) rfl, by decide +kernel, by decide +kernel, by decide⟩
set_option maxRecDepth 100000 in
theorem kL_277 : MV RL 277 mX12_state 11 1 31 := ⟨RX12, TX12, rfl, by decide, lwg_t9 178 (by decide +kernel) rfl, mcX12_state, lwg_t9 179 (by decide +kernel) rfl, lwg_t9 180 (by decide +kernel) rfl⟩
set_option maxRecDepth 100000 in
theorem mcX11_twins : MC mX11_twins 0 := ⟨lwg_t3 92 (by decide +kernel) rfl, lwg_t1 1 (by decide +kernel) rfl, by decide +kernel, by decide +kernel, by decide⟩
set_option maxRecDepth 100000 in
theorem kL_278 : MV RL 278 mX11_twins 10 0 16 := ⟨RX11, TX11, rfl, by decide, lwg_t3 89 (by decide +kernel) rfl, mcX11_twins, lwg_t3 90 (by decide +kernel) rfl, lwg_t3 91 (by decide +kernel) rfl⟩
set_option maxRecDepth 100000 in
theorem mcX12_twins : MC mX12_twins 0 := ⟨lwg_t9 185 (by decide +kernel) rfl, lwg_t1 14 (by decide +kernel) rfl, by decide +kernel, by decide +kernel, by decide⟩
set_option maxRecDepth 100000 in
theorem kL_281 : MV RL 281 mX12_twins 11 0 31 := ⟨RX12, TX12, rfl, by decide, lwg_t9 182 (by decide +kernel) rfl, mcX12_twins, lwg_t9 183 (by decide +kernel) rfl, lwg_t9 184 (by decide +kernel) rfl⟩
set_option maxRecDepth 100000 in
theorem mcL_ahead : MCH mL_ahead 4 := ⟨lwg_t6 157 (by decide +kernel) rfl, lwg_t1 0 (by decide +kernel) rfl, by decide +kernel, by decide +kernel, by decide⟩
set_option maxRecDepth 100000 in
theorem kL_282 : Cond.methodLink RL 282 yL_ahead ∈ lwg ∧ MCH mL_ahead 4 ∧ Cond.static yL_ahead ∈ lwg := ⟨lwg_t6 155 (by decide +kernel) rfl, mcL_ahead, lwg_t6 156 (by decide +kernel) rfl⟩
set_option maxRecDepth 100000 in
theorem mcX12_ahead : MC mX12_ahead 2 := ⟨lwg_t9 189 (by decide +kernel) rfl, lwg_t1 14 (by decide +kernel) rfl, by decide +kernel, by decide +kernel, by decide⟩
set_option maxRecDepth 100000 in
theorem kL_284 : MV RL 284 mX12_ahead 11 2 31 := ⟨RX12, TX12, rfl, by decide, lwg_t9 186 (by decide +kernel) rfl, mcX12_ahead, lwg_t9 187 (by decide +kernel) rfl, lwg_t9 188 (by decide +kernel) rfl⟩
set_option maxRecDepth 100000 in
theorem mcL_trial : MCH mL_trial 4 := ⟨lwg_t6 164 (by decide +kernel) rfl, lwg_t1 0 (by decide +kernel) rfl, by decide +kernel, by decide +kernel, by decide⟩
set_option maxRecDepth 100000 in
theorem kL_285 : Cond.methodLink RL 285 yL_trial ∈ lwg ∧ MCH mL_trial 4 ∧ Cond.static yL_trial ∈ lwg := ⟨lwg_t6 162 (by decide +kernel) rfl, mcL_trial, lwg_t6 163 (by decide +kernel) rfl⟩
set_option maxRecDepth 100000 in
theorem mcX12_trial : MC mX12_trial 2 := ⟨lwg_t9 204 (by decide +kernel) rfl, lwg_t1 14 (by decide +kernel) rfl, by decide +kernel, by decide +kernel, by decide⟩
set_option maxRecDepth 100000 in
theorem kL_287 : MV RL 287 mX12_trial 11 2 31 := ⟨RX12, TX12, rfl, by decide, lwg_t9 201 (by decide +kernel) rfl, mcX12_trial, lwg_t9 202 (by decide +kernel) rfl, lwg_t9 203 (by decide +kernel) rfl⟩
set_option maxRecDepth 100000 in
theorem mcL_span : MCH mL_span 4 := ⟨lwg_t6 175 (by decide +kernel) rfl, lwg_t1 0 (by decide +kernel) rfl, by decide +kernel, by decide +kernel, by decide⟩
set_option maxRecDepth 100000 in
theorem kL_288 : Cond.methodLink RL 288 yL_span ∈ lwg ∧ MCH mL_span 4 ∧ Cond.static yL_span ∈ lwg := ⟨lwg_t6 173 (by decide +kernel) rfl, mcL_span, lwg_t6 174 (by decide +kernel) rfl⟩
set_option maxRecDepth 100000 in
theorem mcX12_span : MC mX12_span 2 := ⟨lwg_t9 208 (by decide +kernel) rfl, lwg_t1 14 (by decide +kernel) rfl, by decide +kernel, by decide +kernel, by decide⟩
set_option maxRecDepth 100000 in
theorem kL_290 : MV RL 290 mX12_span 11 2 31 := ⟨RX12, TX12, rfl, by decide, lwg_t9 205 (by decide +kernel) rfl, mcX12_span, lwg_t9 206 (by decide +kernel) rfl, lwg_t9 207 (by decide +kernel) rfl⟩
set_option maxRecDepth 100000 in
theorem mcL_led : MCH mL_led 4 := ⟨lwg_t6 183 (by decide +kernel) rfl, lwg_t1 0 (by decide +kernel) rfl, by decide +kernel, by decide +kernel, by decide⟩
set_option maxRecDepth 100000 in
theorem kL_291 : Cond.methodLink RL 291 yL_led ∈ lwg ∧ MCH mL_led 4 ∧ Cond.static yL_led ∈ lwg := ⟨lwg_t6 181 (by decide +kernel) rfl, mcL_led, lwg_t6 182 (by decide +kernel) rfl⟩
set_option maxRecDepth 100000 in
theorem mcX12_led : MC mX12_led 2 := ⟨lwg_t9 216 (by decide +kernel) rfl, lwg_t1 14 (by decide +kernel) rfl, by decide +kernel, by decide +kernel, by decide⟩
set_option maxRecDepth 100000 in
theorem kL_293 : MV RL 293 mX12_led 11 2 31 := ⟨RX12, TX12, rfl, by decide, lwg_t9 213 (by decide +kernel) rfl, mcX12_led, lwg_t9 214 (by decide +kernel) rfl, lwg_t9 215 (by decide +kernel) rfl⟩
set_option maxRecDepth 100000 in
theorem mcL_log : MCH mL_log 4 := ⟨lwg_t6 202 (by decide +kernel) rfl, lwg_t1 0 (by decide +kernel) rfl, by decide +kernel, by decide +kernel, by decide⟩
set_option maxRecDepth 100000 in
theorem kL_294 : Cond.methodLink RL 294 yL_log ∈ lwg ∧ MCH mL_log 4 ∧ Cond.static yL_log ∈ lwg := ⟨lwg_t6 200 (by decide +kernel) rfl, mcL_log, lwg_t6 201 (by decide +kernel) rfl⟩
set_option maxRecDepth 100000 in
theorem mcX12_log : MC mX12_log 2 := ⟨lwg_t9 224 (by decide +kernel) rfl, lwg_t1 14 (by decide +kernel) rfl, by decide +kernel, by decide +kernel, by decide⟩
set_option maxRecDepth 100000 in
theorem kL_296 : MV RL 296 mX12_log 11 2 31 := ⟨RX12, TX12, rfl, by decide, lwg_t9 221 (by decide +kernel) rfl, mcX12_log, lwg_t9 222 (by decide +kernel) rfl, lwg_t9 223 (by decide +kernel) rfl⟩
set_option maxRecDepth 100000 in
theorem mcX11_seed : MC mX11_seed 1 := ⟨lwg_t3 96 (by decide +kernel) rfl, lwg_t1 1 (by decide +kernel) rfl, by decide +kernel, by decide +kernel, by decide⟩
set_option maxRecDepth 100000 in
theorem kL_297 : MV RL 297 mX11_seed 10 1 16 := ⟨RX11, TX11, rfl, by decide, lwg_t3 93 (by decide +kernel) rfl, mcX11_seed, lwg_t3 94 (by decide +kernel) rfl, lwg_t3 95 (by decide +kernel) rfl⟩
set_option maxRecDepth 100000 in
theorem mcX12_seed : MC mX12_seed 1 := ⟨lwg_t9 228 (by decide +kernel) rfl, lwg_t1 14 (by decide +kernel) rfl, by decide +kernel, by decide +kernel, by decide⟩
set_option maxRecDepth 100000 in
theorem kL_300 : MV RL 300 mX12_seed 11 1 31 := ⟨RX12, TX12, rfl, by decide, lwg_t9 225 (by decide +kernel) rfl, mcX12_seed, lwg_t9 226 (by decide +kernel) rfl, lwg_t9 227 (by decide +kernel) rfl⟩
set_option maxRecDepth 100000 in
theorem mcX11_undo : MC mX11_undo 0 := ⟨lwg_t3 100 (by decide +kernel) rfl, lwg_t1 1 (by decide +kernel) rfl, by decide +kernel, by decide +kernel, by decide⟩
set_option maxRecDepth 100000 in
theorem kL_301 : MV RL 301 mX11_undo 10 0 16 := ⟨RX11, TX11, rfl, by decide, lwg_t3 97 (by decide +kernel) rfl, mcX11_undo, lwg_t3 98 (by decide +kernel) rfl, lwg_t3 99 (by decide +kernel) rfl⟩
set_option maxRecDepth 100000 in
theorem mcX12_undo : MC mX12_undo 0 := ⟨lwg_t7 84 (by decide +kernel) rfl, lwg_t1 14 (by decide +kernel) rfl, by decide +kernel, by decide +kernel, by decide⟩
set_option maxRecDepth 100000 in
theorem kL_305 : MV RL 305 mX12_undo 11 0 31 := ⟨RX12, TX12, rfl, by decide, lwg_t7 81 (by decide +kernel) rfl, mcX12_undo, lwg_t7 82 (by decide +kernel) rfl, lwg_t7 83 (by decide +kernel) rfl⟩
set_option maxRecDepth 100000 in
theorem mcX11_image : MC mX11_image 0 := ⟨lwg_t3 120 (by decide +kernel) rfl, lwg_t1 1 (by decide +kernel) rfl, by decide +kernel, by decide +kernel, by decide⟩
set_option maxRecDepth 100000 in
theorem kL_306 : MV RL 306 mX11_image 10 0 16 := ⟨RX11, TX11, rfl, by decide, lwg_t3 117 (by decide +kernel) rfl, mcX11_image, lwg_t3 118 (by decide +kernel) rfl, lwg_t3 119 (by decide +kernel) rfl⟩
set_option maxRecDepth 100000 in
theorem mcX12_image : MC mX12_image 0 := ⟨lwg_t7 76 (by decide +kernel) rfl, lwg_t1 14 (by decide +kernel) rfl, by decide +kernel, by decide +kernel, by decide⟩
set_option maxRecDepth 100000 in
theorem kL_309 : MV RL 309 mX12_image 11 0 31 := ⟨RX12, TX12, rfl, by decide, lwg_t7 73 (by decide +kernel) rfl, mcX12_image, lwg_t7 74 (by decide +kernel) rfl, lwg_t7 75 (by decide +kernel) rfl⟩
set_option maxRecDepth 100000 in
theorem mcX11_back : MC mX11_back 0 := ⟨lwg_t3 130 (by decide +kernel) rfl, lwg_t1 1 (by decide +kernel) rfl, by decide +kernel, by decide +kernel, by decide⟩
set_option maxRecDepth 100000 in
theorem kL_310 : MV RL 310 mX11_back 10 0 16 := ⟨RX11, TX11, rfl, by decide, lwg_t3 127 (by decide +kernel) rfl, mcX11_back, lwg_t3 128 (by decide +kernel) rfl, lwg_t3 129 (by decide +kernel) rfl⟩
set_option maxRecDepth 100000 in
theorem mcX12_back : MC mX12_back 0 := ⟨lwg_t7 80 (by decide +kernel) rfl, lwg_t1 14 (by decide +kernel) rfl, by decide +kernel, by decide +kernel, by decide⟩
set_option maxRecDepth 100000 in
theorem kL_313 : MV RL 313 mX12_back 11 0 31 := ⟨RX12, TX12, rfl, by decide, lwg_t7 77 (by decide +kernel) rfl, mcX12_back, lwg_t7 78 (by decide +kernel) rfl, lwg_t7 79 (by decide +kernel) rfl⟩
set_option maxRecDepth 100000 in
theorem mcX11_count : MC mX11_count 1 := ⟨lwg_t3 138 (by decide +kernel) rfl, lwg_t1 1 (by decide +kernel) rfl, by decide +kernel, by decide +kernel, by decide⟩
set_option maxRecDepth 100000 in
theorem kL_314 : MV RL 314 mX11_count 10 1 16 := ⟨RX11, TX11, rfl, by decide, lwg_t3 135 (by decide +kernel) rfl, mcX11_count, lwg_t3 136 (by decide +kernel) rfl, lwg_t3 137 (by decide +kernel) rfl⟩
set_option maxRecDepth 100000 in
theorem mcX12_count : MC mX12_count 1 := ⟨lwg_t9 232 (by decide +kernel) rfl, lwg_t1 14 (by decide +kernel) rfl, by decide +kernel, by decide +kernel, by decide⟩
set_option maxRecDepth 100000 in
theorem kL_317 : MV RL 317 mX12_count 11 1 31 := ⟨RX12, TX12, rfl, by decide, lwg_t9 229 (by decide +kernel) rfl, mcX12_count, lwg_t9 230 (by decide +kernel) rfl, lwg_t9 231 (by decide +kernel) rfl⟩
set_option maxRecDepth 100000 in
theorem kX12_7 : Cond.methodLink RX12 7 ⟨"java/lang/Object", "<init>", "()V"⟩ ∈ lwg := lwg_t6 217 (by decide +kernel) rfl
set_option maxRecDepth 100000 in
theorem mcX12_judgeAt : MC mX12_judgeAt 2 := ⟨lwg_t7 167 (by decide +kernel) rfl, lwg_t1 14 (by decide +kernel) rfl, by decide +kernel, by decide +kernel, by decide⟩
set_option maxRecDepth 100000 in
theorem kX12_80 : MS RX12 80 mX12_judgeAt 2 := ⟨lwg_t7 165 (by decide +kernel) rfl, mcX12_judgeAt, lwg_t7 166 (by decide +kernel) rfl⟩
set_option maxRecDepth 100000 in
theorem mcX12_at : MC mX12_at 2 := ⟨lwg_t7 185 (by decide +kernel) rfl, lwg_t1 14 (by decide +kernel) rfl, by decide +kernel, by decide +kernel, by decide⟩
set_option maxRecDepth 100000 in
theorem kX12_84 : MS RX12 84 mX12_at 2 := ⟨lwg_t7 183 (by decide +kernel) rfl, mcX12_at, lwg_t7 184 (by decide +kernel) rfl⟩
set_option maxRecDepth 100000 in
theorem mcX12_of : MC mX12_of 2 := ⟨lwg_t8 55 (by decide +kernel) rfl, lwg_t1 14 (by decide +kernel) rfl, by decide +kernel, by decide +kernel, by decide⟩
set_option maxRecDepth 100000 in
theorem kX12_87 : MV RX12 87 mX12_of 11 2 31 := ⟨RX12, TX12, rfl, by decide, lwg_t8 52 (by decide +kernel) rfl, mcX12_of, lwg_t8 54 (by decide +kernel) rfl, lwg_t0 48 (by decide +kernel) rfl⟩
set_option maxRecDepth 100000 in
theorem mcX12_cases : MC mX12_cases 0 := ⟨lwg_t7 179 (by decide +kernel) rfl, lwg_t1 14 (by decide +kernel) rfl, by decide +kernel, by decide +kernel, by decide⟩
set_option maxRecDepth 100000 in
theorem kX12_90 : MV RX12 90 mX12_cases 11 0 31 := ⟨RX12, TX12, rfl, by decide, lwg_t7 176 (by decide +kernel) rfl, mcX12_cases, lwg_t7 178 (by decide +kernel) rfl, lwg_t0 27 (by decide +kernel) rfl⟩
set_option maxRecDepth 100000 in
theorem mcX12_placeOf : MC mX12_placeOf 1 := ⟨lwg_t7 194 (by decide +kernel) rfl, lwg_t1 14 (by decide +kernel) rfl, by decide +kernel, by decide +kernel, by decide⟩
set_option maxRecDepth 100000 in
theorem kX12_94 : MV RX12 94 mX12_placeOf 11 1 31 := ⟨RX12, TX12, rfl, by decide, lwg_t7 191 (by decide +kernel) rfl, mcX12_placeOf, lwg_t7 193 (by decide +kernel) rfl, lwg_t0 29 (by decide +kernel) rfl⟩
set_option maxRecDepth 100000 in
theorem mcX12_judges : MC mX12_judges 0 := ⟨lwg_t7 143 (by decide +kernel) rfl, lwg_t1 14 (by decide +kernel) rfl, by decide +kernel, by decide +kernel, by decide⟩
set_option maxRecDepth 100000 in
theorem kX12_98 : MV RX12 98 mX12_judges 11 0 31 := ⟨RX12, TX12, rfl, by decide, lwg_t7 140 (by decide +kernel) rfl, mcX12_judges, lwg_t7 142 (by decide +kernel) rfl, lwg_t0 21 (by decide +kernel) rfl⟩
set_option maxRecDepth 100000 in
theorem mcX12_in : MC mX12_in 3 := ⟨lwg_t8 31 (by decide +kernel) rfl, lwg_t1 14 (by decide +kernel) rfl, by decide +kernel, by decide +kernel, by decide⟩
set_option maxRecDepth 100000 in
theorem kX12_101 : MS RX12 101 mX12_in 3 := ⟨lwg_t8 29 (by decide +kernel) rfl, mcX12_in, lwg_t8 30 (by decide +kernel) rfl⟩
set_option maxRecDepth 100000 in
theorem mcX12_isAt : MC mX12_isAt 2 := ⟨lwg_t7 116 (by decide +kernel) rfl, lwg_t1 14 (by decide +kernel) rfl, by decide +kernel, by decide +kernel, by decide⟩
set_option maxRecDepth 100000 in
theorem kX12_115 : MV RX12 115 mX12_isAt 11 2 31 := ⟨RX12, TX12, rfl, by decide, lwg_t7 113 (by decide +kernel) rfl, mcX12_isAt, lwg_t7 115 (by decide +kernel) rfl, lwg_t0 15 (by decide +kernel) rfl⟩
set_option maxRecDepth 100000 in
theorem mcX12_blanks : MC mX12_blanks 0 := ⟨lwg_t7 112 (by decide +kernel) rfl, lwg_t1 14 (by decide +kernel) rfl, by decide +kernel, by decide +kernel, by decide⟩
set_option maxRecDepth 100000 in
theorem kX12_122 : MV RX12 122 mX12_blanks 11 0 31 := ⟨RX12, TX12, rfl, by decide, lwg_t7 109 (by decide +kernel) rfl, mcX12_blanks, lwg_t7 111 (by decide +kernel) rfl, lwg_t0 14 (by decide +kernel) rfl⟩
set_option maxRecDepth 100000 in
theorem mcX12_letters : MC mX12_letters 0 := ⟨lwg_t7 124 (by decide +kernel) rfl, lwg_t1 14 (by decide +kernel) rfl, by decide +kernel, by decide +kernel, by decide⟩
set_option maxRecDepth 100000 in
theorem kX12_134 : MV RX12 134 mX12_letters 11 0 31 := ⟨RX12, TX12, rfl, by decide, lwg_t7 121 (by decide +kernel) rfl, mcX12_letters, lwg_t7 123 (by decide +kernel) rfl, lwg_t0 17 (by decide +kernel) rfl⟩
set_option maxRecDepth 100000 in
theorem mcX12_isWord : MC mX12_isWord 1 := ⟨lwg_t7 133 (by decide +kernel) rfl, lwg_t1 14 (by decide +kernel) rfl, by decide +kernel, by decide +kernel, by decide⟩
set_option maxRecDepth 100000 in
theorem kX12_137 : MV RX12 137 mX12_isWord 11 1 31 := ⟨RX12, TX12, rfl, by decide, lwg_t7 130 (by decide +kernel) rfl, mcX12_isWord, lwg_t7 132 (by decide +kernel) rfl, lwg_t0 19 (by decide +kernel) rfl⟩
set_option maxRecDepth 100000 in
theorem mcX12_number : MC mX12_number 2 := ⟨lwg_t7 152 (by decide +kernel) rfl, lwg_t1 14 (by decide +kernel) rfl, by decide +kernel, by decide +kernel, by decide⟩
set_option maxRecDepth 100000 in
theorem kX12_141 : MV RX12 141 mX12_number 11 2 31 := ⟨RX12, TX12, rfl, by decide, lwg_t7 149 (by decide +kernel) rfl, mcX12_number, lwg_t7 151 (by decide +kernel) rfl, lwg_t0 23 (by decide +kernel) rfl⟩
set_option maxRecDepth 100000 in
theorem mcX12_passes : MC mX12_passes 1 := ⟨lwg_t7 162 (by decide +kernel) rfl, lwg_t1 14 (by decide +kernel) rfl, by decide +kernel, by decide +kernel, by decide⟩
set_option maxRecDepth 100000 in
theorem kX12_144 : MV RX12 144 mX12_passes 11 1 31 := ⟨RX12, TX12, rfl, by decide, lwg_t7 159 (by decide +kernel) rfl, mcX12_passes, lwg_t7 161 (by decide +kernel) rfl, lwg_t0 25 (by decide +kernel) rfl⟩
set_option maxRecDepth 100000 in
theorem mcX12_behind : MC mX12_behind 3 := ⟨lwg_t7 148 (by decide +kernel) rfl, lwg_t1 14 (by decide +kernel) rfl, by decide +kernel, by decide +kernel, by decide⟩
set_option maxRecDepth 100000 in
theorem kX12_150 : MV RX12 150 mX12_behind 11 3 31 := ⟨RX12, TX12, rfl, by decide, lwg_t7 145 (by decide +kernel) rfl, mcX12_behind, lwg_t7 147 (by decide +kernel) rfl, lwg_t0 22 (by decide +kernel) rfl⟩
set_option maxRecDepth 100000 in
theorem mcX12_told : MC mX12_told 3 := ⟨lwg_t7 158 (by decide +kernel) rfl, lwg_t1 14 (by decide +kernel) rfl, by decide +kernel, by decide +kernel, by decide⟩
set_option maxRecDepth 100000 in
theorem kX12_158 : MV RX12 158 mX12_told 11 3 31 := ⟨RX12, TX12, rfl, by decide, lwg_t7 155 (by decide +kernel) rfl, mcX12_told, lwg_t7 157 (by decide +kernel) rfl, lwg_t0 24 (by decide +kernel) rfl⟩
set_option maxRecDepth 100000 in
theorem mcX12_listAt : MC mX12_listAt 2 := ⟨lwg_t7 170 (by decide +kernel) rfl, lwg_t1 14 (by decide +kernel) rfl, by decide +kernel, by decide +kernel, by decide⟩
set_option maxRecDepth 100000 in
theorem kX12_163 : MS RX12 163 mX12_listAt 2 := ⟨lwg_t7 168 (by decide +kernel) rfl, mcX12_listAt, lwg_t7 169 (by decide +kernel) rfl⟩
set_option maxRecDepth 100000 in
theorem mcX12_readNumber : MC mX12_readNumber 3 := ⟨lwg_t7 203 (by decide +kernel) rfl, lwg_t1 14 (by decide +kernel) rfl, by decide +kernel, by decide +kernel, by decide⟩
set_option maxRecDepth 100000 in
theorem kX12_172 : MV RX12 172 mX12_readNumber 11 3 31 := ⟨RX12, TX12, rfl, by decide, lwg_t7 200 (by decide +kernel) rfl, mcX12_readNumber, lwg_t7 202 (by decide +kernel) rfl, lwg_t0 31 (by decide +kernel) rfl⟩
set_option maxRecDepth 100000 in
theorem mcX12_readJudge : MC mX12_readJudge 0 := ⟨lwg_t7 139 (by decide +kernel) rfl, lwg_t1 14 (by decide +kernel) rfl, by decide +kernel, by decide +kernel, by decide⟩
set_option maxRecDepth 100000 in
theorem kX12_177 : MV RX12 177 mX12_readJudge 11 0 31 := ⟨RX12, TX12, rfl, by decide, lwg_t7 136 (by decide +kernel) rfl, mcX12_readJudge, lwg_t7 138 (by decide +kernel) rfl, lwg_t0 20 (by decide +kernel) rfl⟩
set_option maxRecDepth 100000 in
theorem mcX12_readCase : MC mX12_readCase 0 := ⟨lwg_t7 175 (by decide +kernel) rfl, lwg_t1 14 (by decide +kernel) rfl, by decide +kernel, by decide +kernel, by decide⟩
set_option maxRecDepth 100000 in
theorem kX12_183 : MV RX12 183 mX12_readCase 11 0 31 := ⟨RX12, TX12, rfl, by decide, lwg_t7 172 (by decide +kernel) rfl, mcX12_readCase, lwg_t7 174 (by decide +kernel) rfl, lwg_t0 26 (by decide +kernel) rfl⟩
set_option maxRecDepth 100000 in
theorem mcX12_readList : MC mX12_readList 0 := ⟨lwg_t7 190 (by decide +kernel) rfl, lwg_t1 14 (by decide +kernel) rfl, by decide +kernel, by decide +kernel, by decide⟩
set_option maxRecDepth 100000 in
theorem kX12_188 : MV RX12 188 mX12_readList 11 0 31 := ⟨RX12, TX12, rfl, by decide, lwg_t7 187 (by decide +kernel) rfl, mcX12_readList, lwg_t7 189 (by decide +kernel) rfl, lwg_t0 28 (by decide +kernel) rfl⟩
set_option maxRecDepth 100000 in
theorem mcX12_readInn : MC mX12_readInn 0 := ⟨lwg_t7 199 (by decide +kernel) rfl, lwg_t1 14 (by decide +kernel) rfl, by decide +kernel, by decide +kernel, by decide⟩
set_option maxRecDepth 100000 in
theorem kX12_193 : MV RX12 193 mX12_readInn 11 0 31 := ⟨RX12, TX12, rfl, by decide, lwg_t7 196 (by decide +kernel) rfl, mcX12_readInn, lwg_t7 198 (by decide +kernel) rfl, lwg_t0 30 (by decide +kernel) rfl⟩
set_option maxRecDepth 100000 in
theorem mcX12_wordOfPart : MC mX12_wordOfPart 0 := ⟨lwg_t8 13 (by decide +kernel) rfl, lwg_t1 14 (by decide +kernel) rfl, by decide +kernel, by decide +kernel, by decide⟩
set_option maxRecDepth 100000 in
theorem kX12_205 : MV RX12 205 mX12_wordOfPart 11 0 31 := ⟨RX12, TX12, rfl, by decide, lwg_t8 10 (by decide +kernel) rfl, mcX12_wordOfPart, lwg_t8 12 (by decide +kernel) rfl, lwg_t0 41 (by decide +kernel) rfl⟩
set_option maxRecDepth 100000 in
theorem mcX12_emits : MC mX12_emits 2 := ⟨lwg_t7 234 (by decide +kernel) rfl, lwg_t1 14 (by decide +kernel) rfl, by decide +kernel, by decide +kernel, by decide⟩
set_option maxRecDepth 100000 in
theorem kX12_208 : MV RX12 208 mX12_emits 11 2 31 := ⟨RX12, TX12, rfl, by decide, lwg_t7 231 (by decide +kernel) rfl, mcX12_emits, lwg_t7 233 (by decide +kernel) rfl, lwg_t0 37 (by decide +kernel) rfl⟩
set_option maxRecDepth 100000 in
theorem mcX12_readPart : MC mX12_readPart 0 := ⟨lwg_t8 9 (by decide +kernel) rfl, lwg_t1 14 (by decide +kernel) rfl, by decide +kernel, by decide +kernel, by decide⟩
set_option maxRecDepth 100000 in
theorem kX12_212 : MV RX12 212 mX12_readPart 11 0 31 := ⟨RX12, TX12, rfl, by decide, lwg_t8 6 (by decide +kernel) rfl, mcX12_readPart, lwg_t8 8 (by decide +kernel) rfl, lwg_t0 40 (by decide +kernel) rfl⟩
set_option maxRecDepth 100000 in
theorem mcX12_sign : MC mX12_sign 1 := ⟨lwg_t7 229 (by decide +kernel) rfl, lwg_t1 14 (by decide +kernel) rfl, by decide +kernel, by decide +kernel, by decide⟩
set_option maxRecDepth 100000 in
theorem kX12_215 : MV RX12 215 mX12_sign 11 1 31 := ⟨RX12, TX12, rfl, by decide, lwg_t7 226 (by decide +kernel) rfl, mcX12_sign, lwg_t7 228 (by decide +kernel) rfl, lwg_t0 36 (by decide +kernel) rfl⟩
set_option maxRecDepth 100000 in
theorem mcX12_readCond : MC mX12_readCond 0 := ⟨lwg_t7 217 (by decide +kernel) rfl, lwg_t1 14 (by decide +kernel) rfl, by decide +kernel, by decide +kernel, by decide⟩
set_option maxRecDepth 100000 in
theorem kX12_228 : MV RX12 228 mX12_readCond 11 0 31 := ⟨RX12, TX12, rfl, by decide, lwg_t7 214 (by decide +kernel) rfl, mcX12_readCond, lwg_t7 216 (by decide +kernel) rfl, lwg_t0 33 (by decide +kernel) rfl⟩
set_option maxRecDepth 100000 in
theorem mcX12_readAtom : MC mX12_readAtom 0 := ⟨lwg_t7 225 (by decide +kernel) rfl, lwg_t1 14 (by decide +kernel) rfl, by decide +kernel, by decide +kernel, by decide⟩
set_option maxRecDepth 100000 in
theorem kX12_233 : MV RX12 233 mX12_readAtom 11 0 31 := ⟨RX12, TX12, rfl, by decide, lwg_t7 222 (by decide +kernel) rfl, mcX12_readAtom, lwg_t7 224 (by decide +kernel) rfl, lwg_t0 35 (by decide +kernel) rfl⟩
set_option maxRecDepth 100000 in
theorem mcX12_readTag : MC mX12_readTag 0 := ⟨lwg_t7 238 (by decide +kernel) rfl, lwg_t1 14 (by decide +kernel) rfl, by decide +kernel, by decide +kernel, by decide⟩
set_option maxRecDepth 100000 in
theorem kX12_236 : MV RX12 236 mX12_readTag 11 0 31 := ⟨RX12, TX12, rfl, by decide, lwg_t7 235 (by decide +kernel) rfl, mcX12_readTag, lwg_t7 237 (by decide +kernel) rfl, lwg_t0 38 (by decide +kernel) rfl⟩
set_option maxRecDepth 100000 in
theorem mcX12_readSum : MC mX12_readSum 0 := ⟨lwg_t8 5 (by decide +kernel) rfl, lwg_t1 14 (by decide +kernel) rfl, by decide +kernel, by decide +kernel, by decide⟩
set_option maxRecDepth 100000 in
theorem kX12_239 : MV RX12 239 mX12_readSum 11 0 31 := ⟨RX12, TX12, rfl, by decide, lwg_t8 2 (by decide +kernel) rfl, mcX12_readSum, lwg_t8 4 (by decide +kernel) rfl, lwg_t0 39 (by decide +kernel) rfl⟩
set_option maxRecDepth 100000 in
theorem mcX12_readAllOf : MC mX12_readAllOf 0 := ⟨lwg_t7 221 (by decide +kernel) rfl, lwg_t1 14 (by decide +kernel) rfl, by decide +kernel, by decide +kernel, by decide⟩
set_option maxRecDepth 100000 in
theorem kX12_244 : MV RX12 244 mX12_readAllOf 11 0 31 := ⟨RX12, TX12, rfl, by decide, lwg_t7 218 (by decide +kernel) rfl, mcX12_readAllOf, lwg_t7 220 (by decide +kernel) rfl, lwg_t0 34 (by decide +kernel) rfl⟩
set_option maxRecDepth 100000 in
theorem mcX12_readAssizeLine : MC mX12_readAssizeLine 0 := ⟨lwg_t7 128 (by decide +kernel) rfl, lwg_t1 14 (by decide +kernel) rfl, by decide +kernel, by decide +kernel, by decide⟩
set_option maxRecDepth 100000 in
theorem kX12_257 : MV RX12 257 mX12_readAssizeLine 11 0 31 := ⟨RX12, TX12, rfl, by decide, lwg_t7 125 (by decide +kernel) rfl, mcX12_readAssizeLine, lwg_t7 127 (by decide +kernel) rfl, lwg_t0 18 (by decide +kernel) rfl⟩
set_option maxRecDepth 100000 in
theorem mcX12_readLawLine : MC mX12_readLawLine 1 := ⟨lwg_t7 209 (by decide +kernel) rfl, lwg_t1 14 (by decide +kernel) rfl, by decide +kernel, by decide +kernel, by decide⟩
set_option maxRecDepth 100000 in
theorem kX12_260 : MV RX12 260 mX12_readLawLine 11 1 31 := ⟨RX12, TX12, rfl, by decide, lwg_t7 206 (by decide +kernel) rfl, mcX12_readLawLine, lwg_t7 208 (by decide +kernel) rfl, lwg_t0 32 (by decide +kernel) rfl⟩
set_option maxRecDepth 100000 in
theorem mcX12_uses : MC mX12_uses 0 := ⟨lwg_t7 108 (by decide +kernel) rfl, lwg_t1 14 (by decide +kernel) rfl, by decide +kernel, by decide +kernel, by decide⟩
set_option maxRecDepth 100000 in
theorem kX12_263 : MV RX12 263 mX12_uses 11 0 31 := ⟨RX12, TX12, rfl, by decide, lwg_t7 105 (by decide +kernel) rfl, mcX12_uses, lwg_t7 107 (by decide +kernel) rfl, lwg_t0 13 (by decide +kernel) rfl⟩
set_option maxRecDepth 100000 in
theorem mcX12_readLine : MC mX12_readLine 2 := ⟨lwg_t7 120 (by decide +kernel) rfl, lwg_t1 14 (by decide +kernel) rfl, by decide +kernel, by decide +kernel, by decide⟩
set_option maxRecDepth 100000 in
theorem kX12_266 : MV RX12 266 mX12_readLine 11 2 31 := ⟨RX12, TX12, rfl, by decide, lwg_t7 117 (by decide +kernel) rfl, mcX12_readLine, lwg_t7 119 (by decide +kernel) rfl, lwg_t0 16 (by decide +kernel) rfl⟩
set_option maxRecDepth 100000 in
theorem mcX12_readAll : MC mX12_readAll 1 := ⟨lwg_t7 104 (by decide +kernel) rfl, lwg_t1 14 (by decide +kernel) rfl, by decide +kernel, by decide +kernel, by decide⟩
set_option maxRecDepth 100000 in
theorem kX12_270 : MV RX12 270 mX12_readAll 11 1 31 := ⟨RX12, TX12, rfl, by decide, lwg_t7 101 (by decide +kernel) rfl, mcX12_readAll, lwg_t7 103 (by decide +kernel) rfl, lwg_t0 12 (by decide +kernel) rfl⟩
set_option maxRecDepth 100000 in
theorem mcX12_throwsIf : MC mX12_throwsIf 2 := ⟨lwg_t8 20 (by decide +kernel) rfl, lwg_t1 14 (by decide +kernel) rfl, by decide +kernel, by decide +kernel, by decide⟩
set_option maxRecDepth 100000 in
theorem kX12_274 : MV RX12 274 mX12_throwsIf 11 2 31 := ⟨RX12, TX12, rfl, by decide, lwg_t8 17 (by decide +kernel) rfl, mcX12_throwsIf, lwg_t8 19 (by decide +kernel) rfl, lwg_t0 42 (by decide +kernel) rfl⟩
set_option maxRecDepth 100000 in
theorem mcX12_ofJudge : MC mX12_ofJudge 2 := ⟨lwg_t8 71 (by decide +kernel) rfl, lwg_t1 14 (by decide +kernel) rfl, by decide +kernel, by decide +kernel, by decide⟩
set_option maxRecDepth 100000 in
theorem kX12_280 : MV RX12 280 mX12_ofJudge 11 2 31 := ⟨RX12, TX12, rfl, by decide, lwg_t8 68 (by decide +kernel) rfl, mcX12_ofJudge, lwg_t8 70 (by decide +kernel) rfl, lwg_t0 52 (by decide +kernel) rfl⟩
set_option maxRecDepth 100000 in
theorem mcX12_hasPrecedent : MC mX12_hasPrecedent 1 := ⟨lwg_t8 91 (by decide +kernel) rfl, lwg_t1 14 (by decide +kernel) rfl, by decide +kernel, by decide +kernel, by decide⟩
set_option maxRecDepth 100000 in
theorem kX12_289 : MV RX12 289 mX12_hasPrecedent 11 1 31 := ⟨RX12, TX12, rfl, by decide, lwg_t8 88 (by decide +kernel) rfl, mcX12_hasPrecedent, lwg_t8 90 (by decide +kernel) rfl, lwg_t0 57 (by decide +kernel) rfl⟩
set_option maxRecDepth 100000 in
theorem mcX12_factOf : MC mX12_factOf 4 := ⟨lwg_t8 87 (by decide +kernel) rfl, lwg_t1 14 (by decide +kernel) rfl, by decide +kernel, by decide +kernel, by decide⟩
set_option maxRecDepth 100000 in
theorem kX12_292 : MV RX12 292 mX12_factOf 11 4 31 := ⟨RX12, TX12, rfl, by decide, lwg_t8 84 (by decide +kernel) rfl, mcX12_factOf, lwg_t8 86 (by decide +kernel) rfl, lwg_t0 56 (by decide +kernel) rfl⟩
set_option maxRecDepth 100000 in
theorem mcX12_holdsLine : MC mX12_holdsLine 3 := ⟨lwg_t8 83 (by decide +kernel) rfl, lwg_t1 14 (by decide +kernel) rfl, by decide +kernel, by decide +kernel, by decide⟩
set_option maxRecDepth 100000 in
theorem kX12_296 : MV RX12 296 mX12_holdsLine 11 3 31 := ⟨RX12, TX12, rfl, by decide, lwg_t8 80 (by decide +kernel) rfl, mcX12_holdsLine, lwg_t8 82 (by decide +kernel) rfl, lwg_t0 55 (by decide +kernel) rfl⟩
set_option maxRecDepth 100000 in
theorem mcX12_sumOf : MC mX12_sumOf 3 := ⟨lwg_t8 79 (by decide +kernel) rfl, lwg_t1 14 (by decide +kernel) rfl, by decide +kernel, by decide +kernel, by decide⟩
set_option maxRecDepth 100000 in
theorem kX12_299 : MV RX12 299 mX12_sumOf 11 3 31 := ⟨RX12, TX12, rfl, by decide, lwg_t8 76 (by decide +kernel) rfl, mcX12_sumOf, lwg_t8 78 (by decide +kernel) rfl, lwg_t0 54 (by decide +kernel) rfl⟩
set_option maxRecDepth 100000 in
theorem mcX12_pointBy : MC mX12_pointBy 5 := ⟨lwg_t8 75 (by decide +kernel) rfl, lwg_t1 14 (by decide +kernel) rfl, by decide +kernel, by decide +kernel, by decide⟩
set_option maxRecDepth 100000 in
theorem kX12_303 : MV RX12 303 mX12_pointBy 11 5 31 := ⟨RX12, TX12, rfl, by decide, lwg_t8 72 (by decide +kernel) rfl, mcX12_pointBy, lwg_t8 74 (by decide +kernel) rfl, lwg_t0 53 (by decide +kernel) rfl⟩
set_option maxRecDepth 100000 in
theorem mcX12_pointIn : MC mX12_pointIn 3 := ⟨lwg_t8 67 (by decide +kernel) rfl, lwg_t1 14 (by decide +kernel) rfl, by decide +kernel, by decide +kernel, by decide⟩
set_option maxRecDepth 100000 in
theorem kX12_307 : MV RX12 307 mX12_pointIn 11 3 31 := ⟨RX12, TX12, rfl, by decide, lwg_t8 64 (by decide +kernel) rfl, mcX12_pointIn, lwg_t8 66 (by decide +kernel) rfl, lwg_t0 51 (by decide +kernel) rfl⟩
set_option maxRecDepth 100000 in
theorem mcX12_pointNow : MC mX12_pointNow 2 := ⟨lwg_t8 63 (by decide +kernel) rfl, lwg_t1 14 (by decide +kernel) rfl, by decide +kernel, by decide +kernel, by decide⟩
set_option maxRecDepth 100000 in
theorem kX12_310 : MV RX12 310 mX12_pointNow 11 2 31 := ⟨RX12, TX12, rfl, by decide, lwg_t8 60 (by decide +kernel) rfl, mcX12_pointNow, lwg_t8 62 (by decide +kernel) rfl, lwg_t0 50 (by decide +kernel) rfl⟩
set_option maxRecDepth 100000 in
theorem kX12_313 : Cond.methodLink RX12 313 ⟨"java/lang/Math", "max", "(II)I"⟩ ∈ lwg := lwg_t8 106 (by decide +kernel) rfl
set_option maxRecDepth 100000 in
theorem kX12_318 : Cond.methodLink RX12 318 ⟨"java/lang/Math", "min", "(II)I"⟩ ∈ lwg := lwg_t8 96 (by decide +kernel) rfl
set_option maxRecDepth 100000 in
theorem mcX12_isWaiting : MC mX12_isWaiting 1 := ⟨lwg_t8 51 (by decide +kernel) rfl, lwg_t1 14 (by decide +kernel) rfl, by decide +kernel, by decide +kernel, by decide⟩
set_option maxRecDepth 100000 in
theorem kX12_321 : MV RX12 321 mX12_isWaiting 11 1 31 := ⟨RX12, TX12, rfl, by decide, lwg_t8 48 (by decide +kernel) rfl, mcX12_isWaiting, lwg_t8 50 (by decide +kernel) rfl, lwg_t0 47 (by decide +kernel) rfl⟩
set_option maxRecDepth 100000 in
theorem mcX12_tells : MC mX12_tells 4 := ⟨lwg_t8 95 (by decide +kernel) rfl, lwg_t1 14 (by decide +kernel) rfl, by decide +kernel, by decide +kernel, by decide⟩
set_option maxRecDepth 100000 in
theorem kX12_324 : MV RX12 324 mX12_tells 11 4 31 := ⟨RX12, TX12, rfl, by decide, lwg_t8 92 (by decide +kernel) rfl, mcX12_tells, lwg_t8 94 (by decide +kernel) rfl, lwg_t0 58 (by decide +kernel) rfl⟩
set_option maxRecDepth 100000 in
theorem mcX12_has : MC mX12_has 2 := ⟨lwg_t8 125 (by decide +kernel) rfl, lwg_t1 14 (by decide +kernel) rfl, by decide +kernel, by decide +kernel, by decide⟩
set_option maxRecDepth 100000 in
theorem kX12_328 : MS RX12 328 mX12_has 2 := ⟨lwg_t8 123 (by decide +kernel) rfl, mcX12_has, lwg_t8 124 (by decide +kernel) rfl⟩
set_option maxRecDepth 100000 in
theorem mcX12_isFound : MC mX12_isFound 1 := ⟨lwg_t8 118 (by decide +kernel) rfl, lwg_t1 14 (by decide +kernel) rfl, by decide +kernel, by decide +kernel, by decide⟩
set_option maxRecDepth 100000 in
theorem kX12_331 : MV RX12 331 mX12_isFound 11 1 31 := ⟨RX12, TX12, rfl, by decide, lwg_t8 115 (by decide +kernel) rfl, mcX12_isFound, lwg_t8 117 (by decide +kernel) rfl, lwg_t0 63 (by decide +kernel) rfl⟩
set_option maxRecDepth 100000 in
theorem mcX12_leaningOn : MC mX12_leaningOn 1 := ⟨lwg_t8 122 (by decide +kernel) rfl, lwg_t1 14 (by decide +kernel) rfl, by decide +kernel, by decide +kernel, by decide⟩
set_option maxRecDepth 100000 in
theorem kX12_334 : MV RX12 334 mX12_leaningOn 11 1 31 := ⟨RX12, TX12, rfl, by decide, lwg_t8 119 (by decide +kernel) rfl, mcX12_leaningOn, lwg_t8 121 (by decide +kernel) rfl, lwg_t0 64 (by decide +kernel) rfl⟩
set_option maxRecDepth 100000 in
theorem mcX12_inState : MC mX12_inState 1 := ⟨lwg_t8 129 (by decide +kernel) rfl, lwg_t1 14 (by decide +kernel) rfl, by decide +kernel, by decide +kernel, by decide⟩
set_option maxRecDepth 100000 in
theorem kX12_337 : MV RX12 337 mX12_inState 11 1 31 := ⟨RX12, TX12, rfl, by decide, lwg_t8 126 (by decide +kernel) rfl, mcX12_inState, lwg_t8 128 (by decide +kernel) rfl, lwg_t0 65 (by decide +kernel) rfl⟩
set_option maxRecDepth 100000 in
theorem mcX12_undoneBy : MC mX12_undoneBy 1 := ⟨lwg_t8 114 (by decide +kernel) rfl, lwg_t1 14 (by decide +kernel) rfl, by decide +kernel, by decide +kernel, by decide⟩
set_option maxRecDepth 100000 in
theorem kX12_340 : MV RX12 340 mX12_undoneBy 11 1 31 := ⟨RX12, TX12, rfl, by decide, lwg_t8 111 (by decide +kernel) rfl, mcX12_undoneBy, lwg_t8 113 (by decide +kernel) rfl, lwg_t0 62 (by decide +kernel) rfl⟩
set_option maxRecDepth 100000 in
theorem mcX12_isStruck : MC mX12_isStruck 1 := ⟨lwg_t8 137 (by decide +kernel) rfl, lwg_t1 14 (by decide +kernel) rfl, by decide +kernel, by decide +kernel, by decide⟩
set_option maxRecDepth 100000 in
theorem kX12_343 : MV RX12 343 mX12_isStruck 11 1 31 := ⟨RX12, TX12, rfl, by decide, lwg_t8 134 (by decide +kernel) rfl, mcX12_isStruck, lwg_t8 136 (by decide +kernel) rfl, lwg_t0 67 (by decide +kernel) rfl⟩
set_option maxRecDepth 100000 in
theorem mcX12_hasNow : MC mX12_hasNow 1 := ⟨lwg_t8 47 (by decide +kernel) rfl, lwg_t1 14 (by decide +kernel) rfl, by decide +kernel, by decide +kernel, by decide⟩
set_option maxRecDepth 100000 in
theorem kX12_347 : MV RX12 347 mX12_hasNow 11 1 31 := ⟨RX12, TX12, rfl, by decide, lwg_t8 44 (by decide +kernel) rfl, mcX12_hasNow, lwg_t8 46 (by decide +kernel) rfl, lwg_t0 46 (by decide +kernel) rfl⟩
set_option maxRecDepth 100000 in
theorem mcX12_finds : MC mX12_finds 1 := ⟨lwg_t8 59 (by decide +kernel) rfl, lwg_t1 14 (by decide +kernel) rfl, by decide +kernel, by decide +kernel, by decide⟩
set_option maxRecDepth 100000 in
theorem kX12_350 : MV RX12 350 mX12_finds 11 1 31 := ⟨RX12, TX12, rfl, by decide, lwg_t8 56 (by decide +kernel) rfl, mcX12_finds, lwg_t8 58 (by decide +kernel) rfl, lwg_t0 49 (by decide +kernel) rfl⟩
set_option maxRecDepth 100000 in
theorem mcX12_drawn : MC mX12_drawn 1 := ⟨lwg_t8 100 (by decide +kernel) rfl, lwg_t1 14 (by decide +kernel) rfl, by decide +kernel, by decide +kernel, by decide⟩
set_option maxRecDepth 100000 in
theorem kX12_353 : MV RX12 353 mX12_drawn 11 1 31 := ⟨RX12, TX12, rfl, by decide, lwg_t8 97 (by decide +kernel) rfl, mcX12_drawn, lwg_t8 99 (by decide +kernel) rfl, lwg_t0 59 (by decide +kernel) rfl⟩
set_option maxRecDepth 100000 in
theorem mcX12_crumbsOf : MC mX12_crumbsOf 2 := ⟨lwg_t8 105 (by decide +kernel) rfl, lwg_t1 14 (by decide +kernel) rfl, by decide +kernel, by decide +kernel, by decide⟩
set_option maxRecDepth 100000 in
theorem kX12_356 : MV RX12 356 mX12_crumbsOf 11 2 31 := ⟨RX12, TX12, rfl, by decide, lwg_t8 102 (by decide +kernel) rfl, mcX12_crumbsOf, lwg_t8 104 (by decide +kernel) rfl, lwg_t0 60 (by decide +kernel) rfl⟩
set_option maxRecDepth 100000 in
theorem mcX12_hasCrumbs : MC mX12_hasCrumbs 1 := ⟨lwg_t8 110 (by decide +kernel) rfl, lwg_t1 14 (by decide +kernel) rfl, by decide +kernel, by decide +kernel, by decide⟩
set_option maxRecDepth 100000 in
theorem kX12_359 : MV RX12 359 mX12_hasCrumbs 11 1 31 := ⟨RX12, TX12, rfl, by decide, lwg_t8 107 (by decide +kernel) rfl, mcX12_hasCrumbs, lwg_t8 109 (by decide +kernel) rfl, lwg_t0 61 (by decide +kernel) rfl⟩
set_option maxRecDepth 100000 in
theorem mcX12_hourEnds : MC mX12_hourEnds 0 := ⟨lwg_t8 133 (by decide +kernel) rfl, lwg_t1 14 (by decide +kernel) rfl, by decide +kernel, by decide +kernel, by decide⟩
set_option maxRecDepth 100000 in
theorem kX12_362 : MV RX12 362 mX12_hourEnds 11 0 31 := ⟨RX12, TX12, rfl, by decide, lwg_t8 130 (by decide +kernel) rfl, mcX12_hourEnds, lwg_t8 132 (by decide +kernel) rfl, lwg_t0 66 (by decide +kernel) rfl⟩
set_option maxRecDepth 100000 in
theorem mcX12_oneHour : MC mX12_oneHour 1 := ⟨lwg_t8 43 (by decide +kernel) rfl, lwg_t1 14 (by decide +kernel) rfl, by decide +kernel, by decide +kernel, by decide⟩
set_option maxRecDepth 100000 in
theorem kX12_365 : MV RX12 365 mX12_oneHour 11 1 31 := ⟨RX12, TX12, rfl, by decide, lwg_t8 40 (by decide +kernel) rfl, mcX12_oneHour, lwg_t8 42 (by decide +kernel) rfl, lwg_t0 45 (by decide +kernel) rfl⟩
set_option maxRecDepth 100000 in
theorem mcX12_remembers : MC mX12_remembers 0 := ⟨lwg_t8 35 (by decide +kernel) rfl, lwg_t1 14 (by decide +kernel) rfl, by decide +kernel, by decide +kernel, by decide⟩
set_option maxRecDepth 100000 in
theorem kX12_368 : MV RX12 368 mX12_remembers 11 0 31 := ⟨RX12, TX12, rfl, by decide, lwg_t8 32 (by decide +kernel) rfl, mcX12_remembers, lwg_t8 34 (by decide +kernel) rfl, lwg_t0 43 (by decide +kernel) rfl⟩
set_option maxRecDepth 100000 in
theorem mcX12_goesOn : MC mX12_goesOn 2 := ⟨lwg_t8 39 (by decide +kernel) rfl, lwg_t1 14 (by decide +kernel) rfl, by decide +kernel, by decide +kernel, by decide⟩
set_option maxRecDepth 100000 in
theorem kX12_371 : MV RX12 371 mX12_goesOn 11 2 31 := ⟨RX12, TX12, rfl, by decide, lwg_t8 36 (by decide +kernel) rfl, mcX12_goesOn, lwg_t8 38 (by decide +kernel) rfl, lwg_t0 44 (by decide +kernel) rfl⟩
set_option maxRecDepth 100000 in
theorem mcX12_frees : MC mX12_frees 2 := ⟨lwg_t8 153 (by decide +kernel) rfl, lwg_t1 14 (by decide +kernel) rfl, by decide +kernel, by decide +kernel, by decide⟩
set_option maxRecDepth 100000 in
theorem kX12_375 : MV RX12 375 mX12_frees 11 2 31 := ⟨RX12, TX12, rfl, by decide, lwg_t8 150 (by decide +kernel) rfl, mcX12_frees, lwg_t8 152 (by decide +kernel) rfl, lwg_t0 70 (by decide +kernel) rfl⟩
set_option maxRecDepth 100000 in
theorem kX12_378 : MS RX12 378 mJ6_bitCount_0f7a4 1 := ⟨lwg_t8 158 (by decide +kernel) rfl, mcJ6_bitCount_0f7a4, lwg_t3 15 (by decide +kernel) rfl⟩
set_option maxRecDepth 100000 in
theorem mcX12_noJudge : MC mX12_noJudge 1 := ⟨lwg_t8 145 (by decide +kernel) rfl, lwg_t1 14 (by decide +kernel) rfl, by decide +kernel, by decide +kernel, by decide⟩
set_option maxRecDepth 100000 in
theorem kX12_383 : MV RX12 383 mX12_noJudge 11 1 31 := ⟨RX12, TX12, rfl, by decide, lwg_t8 142 (by decide +kernel) rfl, mcX12_noJudge, lwg_t8 144 (by decide +kernel) rfl, lwg_t0 68 (by decide +kernel) rfl⟩
set_option maxRecDepth 100000 in
theorem mcX12_harshOf : MC mX12_harshOf 1 := ⟨lwg_t8 149 (by decide +kernel) rfl, lwg_t1 14 (by decide +kernel) rfl, by decide +kernel, by decide +kernel, by decide⟩
set_option maxRecDepth 100000 in
theorem kX12_386 : MV RX12 386 mX12_harshOf 11 1 31 := ⟨RX12, TX12, rfl, by decide, lwg_t8 146 (by decide +kernel) rfl, mcX12_harshOf, lwg_t8 148 (by decide +kernel) rfl, lwg_t0 69 (by decide +kernel) rfl⟩
set_option maxRecDepth 100000 in
theorem mcX12_shareOf : MC mX12_shareOf 1 := ⟨lwg_t8 157 (by decide +kernel) rfl, lwg_t1 14 (by decide +kernel) rfl, by decide +kernel, by decide +kernel, by decide⟩
set_option maxRecDepth 100000 in
theorem kX12_389 : MV RX12 389 mX12_shareOf 11 1 31 := ⟨RX12, TX12, rfl, by decide, lwg_t8 154 (by decide +kernel) rfl, mcX12_shareOf, lwg_t8 156 (by decide +kernel) rfl, lwg_t0 71 (by decide +kernel) rfl⟩
set_option maxRecDepth 100000 in
theorem mcX12_freeHours : MC mX12_freeHours 1 := ⟨lwg_t8 162 (by decide +kernel) rfl, lwg_t1 14 (by decide +kernel) rfl, by decide +kernel, by decide +kernel, by decide⟩
set_option maxRecDepth 100000 in
theorem kX12_392 : MV RX12 392 mX12_freeHours 11 1 31 := ⟨RX12, TX12, rfl, by decide, lwg_t8 159 (by decide +kernel) rfl, mcX12_freeHours, lwg_t8 161 (by decide +kernel) rfl, lwg_t0 72 (by decide +kernel) rfl⟩
set_option maxRecDepth 100000 in
theorem mcX12_circuitOf : MC mX12_circuitOf 1 := ⟨lwg_t8 166 (by decide +kernel) rfl, lwg_t1 14 (by decide +kernel) rfl, by decide +kernel, by decide +kernel, by decide⟩
set_option maxRecDepth 100000 in
theorem kX12_395 : MV RX12 395 mX12_circuitOf 11 1 31 := ⟨RX12, TX12, rfl, by decide, lwg_t8 163 (by decide +kernel) rfl, mcX12_circuitOf, lwg_t8 165 (by decide +kernel) rfl, lwg_t0 73 (by decide +kernel) rfl⟩
set_option maxRecDepth 100000 in
theorem mcX12_wouldBe : MC mX12_wouldBe 3 := ⟨lwg_t8 206 (by decide +kernel) rfl, lwg_t1 14 (by decide +kernel) rfl, by decide +kernel, by decide +kernel, by decide⟩
set_option maxRecDepth 100000 in
theorem kX12_398 : MV RX12 398 mX12_wouldBe 11 3 31 := ⟨RX12, TX12, rfl, by decide, lwg_t8 203 (by decide +kernel) rfl, mcX12_wouldBe, lwg_t8 205 (by decide +kernel) rfl, lwg_t0 82 (by decide +kernel) rfl⟩
set_option maxRecDepth 100000 in
theorem mcX12_earlyOf : MC mX12_earlyOf 2 := ⟨lwg_t8 202 (by decide +kernel) rfl, lwg_t1 14 (by decide +kernel) rfl, by decide +kernel, by decide +kernel, by decide⟩
set_option maxRecDepth 100000 in
theorem kX12_401 : MV RX12 401 mX12_earlyOf 11 2 31 := ⟨RX12, TX12, rfl, by decide, lwg_t8 199 (by decide +kernel) rfl, mcX12_earlyOf, lwg_t8 201 (by decide +kernel) rfl, lwg_t0 81 (by decide +kernel) rfl⟩
set_option maxRecDepth 100000 in
theorem mcX12_noCase : MC mX12_noCase 1 := ⟨lwg_t8 194 (by decide +kernel) rfl, lwg_t1 14 (by decide +kernel) rfl, by decide +kernel, by decide +kernel, by decide⟩
set_option maxRecDepth 100000 in
theorem kX12_404 : MV RX12 404 mX12_noCase 11 1 31 := ⟨RX12, TX12, rfl, by decide, lwg_t8 191 (by decide +kernel) rfl, mcX12_noCase, lwg_t8 193 (by decide +kernel) rfl, lwg_t0 79 (by decide +kernel) rfl⟩
set_option maxRecDepth 100000 in
theorem mcX12_benchOf : MC mX12_benchOf 1 := ⟨lwg_t8 198 (by decide +kernel) rfl, lwg_t1 14 (by decide +kernel) rfl, by decide +kernel, by decide +kernel, by decide⟩
set_option maxRecDepth 100000 in
theorem kX12_407 : MV RX12 407 mX12_benchOf 11 1 31 := ⟨RX12, TX12, rfl, by decide, lwg_t8 195 (by decide +kernel) rfl, mcX12_benchOf, lwg_t8 197 (by decide +kernel) rfl, lwg_t0 80 (by decide +kernel) rfl⟩
set_option maxRecDepth 100000 in
theorem mcX12_delayOf : MC mX12_delayOf 1 := ⟨lwg_t8 210 (by decide +kernel) rfl, lwg_t1 14 (by decide +kernel) rfl, by decide +kernel, by decide +kernel, by decide⟩
set_option maxRecDepth 100000 in
theorem kX12_410 : MV RX12 410 mX12_delayOf 11 1 31 := ⟨RX12, TX12, rfl, by decide, lwg_t8 207 (by decide +kernel) rfl, mcX12_delayOf, lwg_t8 209 (by decide +kernel) rfl, lwg_t0 83 (by decide +kernel) rfl⟩
set_option maxRecDepth 100000 in
theorem mcX12_sharedTo : MC mX12_sharedTo 1 := ⟨lwg_t8 214 (by decide +kernel) rfl, lwg_t1 14 (by decide +kernel) rfl, by decide +kernel, by decide +kernel, by decide⟩
set_option maxRecDepth 100000 in
theorem kX12_413 : MV RX12 413 mX12_sharedTo 11 1 31 := ⟨RX12, TX12, rfl, by decide, lwg_t8 211 (by decide +kernel) rfl, mcX12_sharedTo, lwg_t8 213 (by decide +kernel) rfl, lwg_t0 84 (by decide +kernel) rfl⟩
set_option maxRecDepth 100000 in
theorem mcX12_noHour : MC mX12_noHour 1 := ⟨lwg_t8 221 (by decide +kernel) rfl, lwg_t1 14 (by decide +kernel) rfl, by decide +kernel, by decide +kernel, by decide⟩
set_option maxRecDepth 100000 in
theorem kX12_416 : MS RX12 416 mX12_noHour 1 := ⟨lwg_t8 219 (by decide +kernel) rfl, mcX12_noHour, lwg_t8 220 (by decide +kernel) rfl⟩
set_option maxRecDepth 100000 in
theorem mcX12_isNow : MC mX12_isNow 2 := ⟨lwg_t9 5 (by decide +kernel) rfl, lwg_t1 14 (by decide +kernel) rfl, by decide +kernel, by decide +kernel, by decide⟩
set_option maxRecDepth 100000 in
theorem kX12_419 : MV RX12 419 mX12_isNow 11 2 31 := ⟨RX12, TX12, rfl, by decide, lwg_t9 2 (by decide +kernel) rfl, mcX12_isNow, lwg_t9 4 (by decide +kernel) rfl, lwg_t0 85 (by decide +kernel) rfl⟩
set_option maxRecDepth 100000 in
theorem mcX12_noSuch : MC mX12_noSuch 2 := ⟨lwg_t9 33 (by decide +kernel) rfl, lwg_t1 14 (by decide +kernel) rfl, by decide +kernel, by decide +kernel, by decide⟩
set_option maxRecDepth 100000 in
theorem kX12_422 : MV RX12 422 mX12_noSuch 11 2 31 := ⟨RX12, TX12, rfl, by decide, lwg_t9 30 (by decide +kernel) rfl, mcX12_noSuch, lwg_t9 32 (by decide +kernel) rfl, lwg_t0 86 (by decide +kernel) rfl⟩
set_option maxRecDepth 100000 in
theorem mcX12_laysMay : MC mX12_laysMay 1 := ⟨lwg_t9 57 (by decide +kernel) rfl, lwg_t1 14 (by decide +kernel) rfl, by decide +kernel, by decide +kernel, by decide⟩
set_option maxRecDepth 100000 in
theorem kX12_425 : MV RX12 425 mX12_laysMay 11 1 31 := ⟨RX12, TX12, rfl, by decide, lwg_t9 54 (by decide +kernel) rfl, mcX12_laysMay, lwg_t9 56 (by decide +kernel) rfl, lwg_t0 88 (by decide +kernel) rfl⟩
set_option maxRecDepth 100000 in
theorem mcX12_emptiesList : MC mX12_emptiesList 0 := ⟨lwg_t9 61 (by decide +kernel) rfl, lwg_t1 14 (by decide +kernel) rfl, by decide +kernel, by decide +kernel, by decide⟩
set_option maxRecDepth 100000 in
theorem kX12_428 : MV RX12 428 mX12_emptiesList 11 0 31 := ⟨RX12, TX12, rfl, by decide, lwg_t9 58 (by decide +kernel) rfl, mcX12_emptiesList, lwg_t9 60 (by decide +kernel) rfl, lwg_t0 89 (by decide +kernel) rfl⟩
set_option maxRecDepth 100000 in
theorem mcX12_isKept : MC mX12_isKept 1 := ⟨lwg_t9 65 (by decide +kernel) rfl, lwg_t1 14 (by decide +kernel) rfl, by decide +kernel, by decide +kernel, by decide⟩
set_option maxRecDepth 100000 in
theorem kX12_431 : MV RX12 431 mX12_isKept 11 1 31 := ⟨RX12, TX12, rfl, by decide, lwg_t9 62 (by decide +kernel) rfl, mcX12_isKept, lwg_t9 64 (by decide +kernel) rfl, lwg_t0 90 (by decide +kernel) rfl⟩
set_option maxRecDepth 100000 in
theorem mcX12_savedOnes : MC mX12_savedOnes 0 := ⟨lwg_t9 53 (by decide +kernel) rfl, lwg_t1 14 (by decide +kernel) rfl, by decide +kernel, by decide +kernel, by decide⟩
set_option maxRecDepth 100000 in
theorem kX12_434 : MV RX12 434 mX12_savedOnes 11 0 31 := ⟨RX12, TX12, rfl, by decide, lwg_t9 50 (by decide +kernel) rfl, mcX12_savedOnes, lwg_t9 52 (by decide +kernel) rfl, lwg_t0 87 (by decide +kernel) rfl⟩
set_option maxRecDepth 100000 in
theorem mcX12_allKept : MC mX12_allKept 2 := ⟨lwg_t9 73 (by decide +kernel) rfl, lwg_t1 14 (by decide +kernel) rfl, by decide +kernel, by decide +kernel, by decide⟩
set_option maxRecDepth 100000 in
theorem kX12_437 : MV RX12 437 mX12_allKept 11 2 31 := ⟨RX12, TX12, rfl, by decide, lwg_t9 70 (by decide +kernel) rfl, mcX12_allKept, lwg_t9 72 (by decide +kernel) rfl, lwg_t0 91 (by decide +kernel) rfl⟩
set_option maxRecDepth 100000 in
theorem mcX12_freesWith : MC mX12_freesWith 4 := ⟨lwg_t9 105 (by decide +kernel) rfl, lwg_t1 14 (by decide +kernel) rfl, by decide +kernel, by decide +kernel, by decide⟩
set_option maxRecDepth 100000 in
theorem kX12_440 : MV RX12 440 mX12_freesWith 11 4 31 := ⟨RX12, TX12, rfl, by decide, lwg_t9 102 (by decide +kernel) rfl, mcX12_freesWith, lwg_t9 104 (by decide +kernel) rfl, lwg_t0 94 (by decide +kernel) rfl⟩
set_option maxRecDepth 100000 in
theorem mcX12_isMeals : MC mX12_isMeals 0 := ⟨lwg_t9 97 (by decide +kernel) rfl, lwg_t1 14 (by decide +kernel) rfl, by decide +kernel, by decide +kernel, by decide⟩
set_option maxRecDepth 100000 in
theorem kX12_444 : MV RX12 444 mX12_isMeals 11 0 31 := ⟨RX12, TX12, rfl, by decide, lwg_t9 94 (by decide +kernel) rfl, mcX12_isMeals, lwg_t9 96 (by decide +kernel) rfl, lwg_t0 92 (by decide +kernel) rfl⟩
set_option maxRecDepth 100000 in
theorem mcX12_fits : MC mX12_fits 2 := ⟨lwg_t9 101 (by decide +kernel) rfl, lwg_t1 14 (by decide +kernel) rfl, by decide +kernel, by decide +kernel, by decide⟩
set_option maxRecDepth 100000 in
theorem kX12_447 : MV RX12 447 mX12_fits 11 2 31 := ⟨RX12, TX12, rfl, by decide, lwg_t9 98 (by decide +kernel) rfl, mcX12_fits, lwg_t9 100 (by decide +kernel) rfl, lwg_t0 93 (by decide +kernel) rfl⟩
set_option maxRecDepth 100000 in
theorem mcX12_payOf : MC mX12_payOf 2 := ⟨lwg_t8 182 (by decide +kernel) rfl, lwg_t1 14 (by decide +kernel) rfl, by decide +kernel, by decide +kernel, by decide⟩
set_option maxRecDepth 100000 in
theorem kX12_450 : MV RX12 450 mX12_payOf 11 2 31 := ⟨RX12, TX12, rfl, by decide, lwg_t8 179 (by decide +kernel) rfl, mcX12_payOf, lwg_t8 181 (by decide +kernel) rfl, lwg_t0 77 (by decide +kernel) rfl⟩
set_option maxRecDepth 100000 in
theorem mcX12_likesMore : MC mX12_likesMore 3 := ⟨lwg_t8 178 (by decide +kernel) rfl, lwg_t1 14 (by decide +kernel) rfl, by decide +kernel, by decide +kernel, by decide⟩
set_option maxRecDepth 100000 in
theorem kX12_453 : MV RX12 453 mX12_likesMore 11 3 31 := ⟨RX12, TX12, rfl, by decide, lwg_t8 175 (by decide +kernel) rfl, mcX12_likesMore, lwg_t8 177 (by decide +kernel) rfl, lwg_t0 76 (by decide +kernel) rfl⟩
set_option maxRecDepth 100000 in
theorem mcX12_keptBy : MC mX12_keptBy 1 := ⟨lwg_t8 170 (by decide +kernel) rfl, lwg_t1 14 (by decide +kernel) rfl, by decide +kernel, by decide +kernel, by decide⟩
set_option maxRecDepth 100000 in
theorem kX12_456 : MV RX12 456 mX12_keptBy 11 1 31 := ⟨RX12, TX12, rfl, by decide, lwg_t8 167 (by decide +kernel) rfl, mcX12_keptBy, lwg_t8 169 (by decide +kernel) rfl, lwg_t0 74 (by decide +kernel) rfl⟩
set_option maxRecDepth 100000 in
theorem mcX12_asksNext : MC mX12_asksNext 1 := ⟨lwg_t8 174 (by decide +kernel) rfl, lwg_t1 14 (by decide +kernel) rfl, by decide +kernel, by decide +kernel, by decide⟩
set_option maxRecDepth 100000 in
theorem kX12_459 : MV RX12 459 mX12_asksNext 11 1 31 := ⟨RX12, TX12, rfl, by decide, lwg_t8 171 (by decide +kernel) rfl, mcX12_asksNext, lwg_t8 173 (by decide +kernel) rfl, lwg_t0 75 (by decide +kernel) rfl⟩
set_option maxRecDepth 100000 in
theorem mcX12_isHungrier : MC mX12_isHungrier 2 := ⟨lwg_t8 186 (by decide +kernel) rfl, lwg_t1 14 (by decide +kernel) rfl, by decide +kernel, by decide +kernel, by decide⟩
set_option maxRecDepth 100000 in
theorem kX12_462 : MV RX12 462 mX12_isHungrier 11 2 31 := ⟨RX12, TX12, rfl, by decide, lwg_t8 183 (by decide +kernel) rfl, mcX12_isHungrier, lwg_t8 185 (by decide +kernel) rfl, lwg_t0 78 (by decide +kernel) rfl⟩
set_option maxRecDepth 100000 in
theorem mcJ6_numberOfTrailingZeros_0f7a4 : MC mJ6_numberOfTrailingZeros_0f7a4 1 := ⟨lwg_t9 136 (by decide +kernel) rfl, lwg_t1 28 (by decide +kernel) rfl, by decide +kernel, by decide +kernel, by decide⟩
set_option maxRecDepth 100000 in
theorem kX12_466 : MS RX12 466 mJ6_numberOfTrailingZeros_0f7a4 1 := ⟨lwg_t9 134 (by decide +kernel) rfl, mcJ6_numberOfTrailingZeros_0f7a4, lwg_t9 135 (by decide +kernel) rfl⟩
set_option maxRecDepth 100000 in
theorem mcX12_firstOf : MC mX12_firstOf 1 := ⟨lwg_t9 133 (by decide +kernel) rfl, lwg_t1 14 (by decide +kernel) rfl, by decide +kernel, by decide +kernel, by decide⟩
set_option maxRecDepth 100000 in
theorem kX12_469 : MS RX12 469 mX12_firstOf 1 := ⟨lwg_t9 131 (by decide +kernel) rfl, mcX12_firstOf, lwg_t9 132 (by decide +kernel) rfl⟩
set_option maxRecDepth 100000 in
theorem mcX12_differ : MC mX12_differ 2 := ⟨lwg_t9 141 (by decide +kernel) rfl, lwg_t1 14 (by decide +kernel) rfl, by decide +kernel, by decide +kernel, by decide⟩
set_option maxRecDepth 100000 in
theorem kX12_472 : MV RX12 472 mX12_differ 11 2 31 := ⟨RX12, TX12, rfl, by decide, lwg_t9 138 (by decide +kernel) rfl, mcX12_differ, lwg_t9 140 (by decide +kernel) rfl, lwg_t0 97 (by decide +kernel) rfl⟩
set_option maxRecDepth 100000 in
theorem mcX12_differingBy : MC mX12_differingBy 2 := ⟨lwg_t9 130 (by decide +kernel) rfl, lwg_t1 14 (by decide +kernel) rfl, by decide +kernel, by decide +kernel, by decide⟩
set_option maxRecDepth 100000 in
theorem kX12_475 : MV RX12 475 mX12_differingBy 11 2 31 := ⟨RX12, TX12, rfl, by decide, lwg_t9 127 (by decide +kernel) rfl, mcX12_differingBy, lwg_t9 129 (by decide +kernel) rfl, lwg_t0 96 (by decide +kernel) rfl⟩
set_option maxRecDepth 100000 in
theorem mcX12_laysDiffering : MC mX12_laysDiffering 0 := ⟨lwg_t9 126 (by decide +kernel) rfl, lwg_t1 14 (by decide +kernel) rfl, by decide +kernel, by decide +kernel, by decide⟩
set_option maxRecDepth 100000 in
theorem kX12_478 : MV RX12 478 mX12_laysDiffering 11 0 31 := ⟨RX12, TX12, rfl, by decide, lwg_t9 123 (by decide +kernel) rfl, mcX12_laysDiffering, lwg_t9 125 (by decide +kernel) rfl, lwg_t0 95 (by decide +kernel) rfl⟩
set_option maxRecDepth 100000 in
theorem mcX12_waiting : MC mX12_waiting 0 := ⟨lwg_t9 149 (by decide +kernel) rfl, lwg_t1 14 (by decide +kernel) rfl, by decide +kernel, by decide +kernel, by decide⟩
set_option maxRecDepth 100000 in
theorem kX12_481 : MV RX12 481 mX12_waiting 11 0 31 := ⟨RX12, TX12, rfl, by decide, lwg_t9 146 (by decide +kernel) rfl, mcX12_waiting, lwg_t9 148 (by decide +kernel) rfl, lwg_t0 98 (by decide +kernel) rfl⟩
set_option maxRecDepth 100000 in
theorem mcX12_judgeHas : MC mX12_judgeHas 3 := ⟨lwg_t9 157 (by decide +kernel) rfl, lwg_t1 14 (by decide +kernel) rfl, by decide +kernel, by decide +kernel, by decide⟩
set_option maxRecDepth 100000 in
theorem kX12_484 : MV RX12 484 mX12_judgeHas 11 3 31 := ⟨RX12, TX12, rfl, by decide, lwg_t9 154 (by decide +kernel) rfl, mcX12_judgeHas, lwg_t9 156 (by decide +kernel) rfl, lwg_t0 99 (by decide +kernel) rfl⟩
set_option maxRecDepth 100000 in
theorem mcX12_cookHas : MC mX12_cookHas 3 := ⟨lwg_t9 161 (by decide +kernel) rfl, lwg_t1 14 (by decide +kernel) rfl, by decide +kernel, by decide +kernel, by decide⟩
set_option maxRecDepth 100000 in
theorem kX12_487 : MV RX12 487 mX12_cookHas 11 3 31 := ⟨RX12, TX12, rfl, by decide, lwg_t9 158 (by decide +kernel) rfl, mcX12_cookHas, lwg_t9 160 (by decide +kernel) rfl, lwg_t0 100 (by decide +kernel) rfl⟩
set_option maxRecDepth 100000 in
theorem mcX12_noAhead : MC mX12_noAhead 1 := ⟨lwg_t9 192 (by decide +kernel) rfl, lwg_t1 14 (by decide +kernel) rfl, by decide +kernel, by decide +kernel, by decide⟩
set_option maxRecDepth 100000 in
theorem kX12_490 : MS RX12 490 mX12_noAhead 1 := ⟨lwg_t9 190 (by decide +kernel) rfl, mcX12_noAhead, lwg_t9 191 (by decide +kernel) rfl⟩
set_option maxRecDepth 100000 in
theorem mcX12_keepsAll : MC mX12_keepsAll 0 := ⟨lwg_t9 196 (by decide +kernel) rfl, lwg_t1 14 (by decide +kernel) rfl, by decide +kernel, by decide +kernel, by decide⟩
set_option maxRecDepth 100000 in
theorem kX12_493 : MV RX12 493 mX12_keepsAll 11 0 31 := ⟨RX12, TX12, rfl, by decide, lwg_t9 193 (by decide +kernel) rfl, mcX12_keepsAll, lwg_t9 195 (by decide +kernel) rfl, lwg_t0 101 (by decide +kernel) rfl⟩
set_option maxRecDepth 100000 in
theorem mcX12_bringsBack : MC mX12_bringsBack 0 := ⟨lwg_t9 200 (by decide +kernel) rfl, lwg_t1 14 (by decide +kernel) rfl, by decide +kernel, by decide +kernel, by decide⟩
set_option maxRecDepth 100000 in
theorem kX12_496 : MV RX12 496 mX12_bringsBack 11 0 31 := ⟨RX12, TX12, rfl, by decide, lwg_t9 197 (by decide +kernel) rfl, mcX12_bringsBack, lwg_t9 199 (by decide +kernel) rfl, lwg_t0 102 (by decide +kernel) rfl⟩
set_option maxRecDepth 100000 in
theorem mcX12_worthFreed : MC mX12_worthFreed 0 := ⟨lwg_t9 212 (by decide +kernel) rfl, lwg_t1 14 (by decide +kernel) rfl, by decide +kernel, by decide +kernel, by decide⟩
set_option maxRecDepth 100000 in
theorem kX12_499 : MV RX12 499 mX12_worthFreed 11 0 31 := ⟨RX12, TX12, rfl, by decide, lwg_t9 209 (by decide +kernel) rfl, mcX12_worthFreed, lwg_t9 211 (by decide +kernel) rfl, lwg_t0 103 (by decide +kernel) rfl⟩
set_option maxRecDepth 100000 in
theorem mcX12_ofLog : MC mX12_ofLog 2 := ⟨lwg_t9 220 (by decide +kernel) rfl, lwg_t1 14 (by decide +kernel) rfl, by decide +kernel, by decide +kernel, by decide⟩
set_option maxRecDepth 100000 in
theorem kX12_502 : MV RX12 502 mX12_ofLog 11 2 31 := ⟨RX12, TX12, rfl, by decide, lwg_t9 217 (by decide +kernel) rfl, mcX12_ofLog, lwg_t9 219 (by decide +kernel) rfl, lwg_t0 104 (by decide +kernel) rfl⟩
set_option maxRecDepth 100000 in
theorem mcJ1_charAt_3b067 : MC mJ1_charAt_3b067 2 := ⟨lwg_t3 210 (by decide +kernel) rfl, lwg_t1 17 (by decide +kernel) rfl, by decide +kernel, by decide +kernel, by decide⟩
set_option maxRecDepth 100000 in
theorem kJ0_495 : MS RJ0 495 mJ1_charAt_3b067 2 := ⟨lwg_t3 208 (by decide +kernel) rfl, mcJ1_charAt_3b067, lwg_t3 209 (by decide +kernel) rfl⟩
set_option maxRecDepth 100000 in
theorem mcJ2_charAt_3b067 : MC mJ2_charAt_3b067 2 := ⟨lwg_t3 221 (by decide +kernel) rfl, lwg_t1 19 (by decide +kernel) rfl, by decide +kernel, by decide +kernel, by decide⟩
set_option maxRecDepth 100000 in
theorem kJ0_498 : MS RJ0 498 mJ2_charAt_3b067 2 := ⟨lwg_t3 219 (by decide +kernel) rfl, mcJ2_charAt_3b067, lwg_t3 220 (by decide +kernel) rfl⟩
set_option maxRecDepth 100000 in
theorem mcJ3_checkIndex_8e157 : MC mJ3_checkIndex_8e157 3 := ⟨lwg_t3 218 (by decide +kernel) rfl, lwg_t1 18 (by decide +kernel) rfl, by decide +kernel, by decide +kernel, by decide⟩
set_option maxRecDepth 100000 in
theorem kJ0_1059 : MS RJ0 1059 mJ3_checkIndex_8e157 3 := ⟨lwg_t3 216 (by decide +kernel) rfl, mcJ3_checkIndex_8e157, lwg_t3 217 (by decide +kernel) rfl⟩
set_option maxRecDepth 100000 in
theorem mcJ0_checkIndex_df160 : MC mJ0_checkIndex_df160 2 := ⟨lwg_t3 213 (by decide +kernel) rfl, lwg_t1 16 (by decide +kernel) rfl, by decide +kernel, by decide +kernel, by decide⟩
set_option maxRecDepth 100000 in
theorem kJ1_9 : MS RJ1 9 mJ0_checkIndex_df160 2 := ⟨lwg_t3 211 (by decide +kernel) rfl, mcJ0_checkIndex_df160, lwg_t3 212 (by decide +kernel) rfl⟩
set_option maxRecDepth 100000 in
theorem mcJ2_length_9d52b : MC mJ2_length_9d52b 1 := ⟨lwg_t3 227 (by decide +kernel) rfl, lwg_t1 19 (by decide +kernel) rfl, by decide +kernel, by decide +kernel, by decide⟩
set_option maxRecDepth 100000 in
theorem kJ2_48 : MS RJ2 48 mJ2_length_9d52b 1 := ⟨lwg_t3 225 (by decide +kernel) rfl, mcJ2_length_9d52b, lwg_t3 226 (by decide +kernel) rfl⟩
set_option maxRecDepth 100000 in
theorem mcJ2_checkIndex_2214a : MC mJ2_checkIndex_2214a 2 := ⟨lwg_t3 224 (by decide +kernel) rfl, lwg_t1 19 (by decide +kernel) rfl, by decide +kernel, by decide +kernel, by decide⟩
set_option maxRecDepth 100000 in
theorem kJ2_67 : MS RJ2 67 mJ2_checkIndex_2214a 2 := ⟨lwg_t3 222 (by decide +kernel) rfl, mcJ2_checkIndex_2214a, lwg_t3 223 (by decide +kernel) rfl⟩
set_option maxRecDepth 100000 in
theorem mcJ2_getChar_3b067 : MC mJ2_getChar_3b067 2 := ⟨lwg_t3 231 (by decide +kernel) rfl, lwg_t1 19 (by decide +kernel) rfl, by decide +kernel, by decide +kernel, by decide⟩
set_option maxRecDepth 100000 in
theorem kJ2_71 : MS RJ2 71 mJ2_getChar_3b067 2 := ⟨lwg_t3 229 (by decide +kernel) rfl, mcJ2_getChar_3b067, lwg_t3 230 (by decide +kernel) rfl⟩
set_option maxRecDepth 100000 in
theorem kJ2_414 : MS RJ2 414 mJ0_checkIndex_df160 2 := ⟨lwg_t3 228 (by decide +kernel) rfl, mcJ0_checkIndex_df160, lwg_t3 212 (by decide +kernel) rfl⟩
set_option maxRecDepth 100000 in
theorem qX5_52 : Cond.constantLong RX5 52 (Int64.ofInt (-1)) ∈ lwg := lwg_t2 239 (by decide +kernel) rfl
set_option maxRecDepth 100000 in
theorem qJ13_314 : Cond.constantLong RJ13 314 (Int64.ofInt (6148914691236517205)) ∈ lwg := lwg_t3 11 (by decide +kernel) rfl
set_option maxRecDepth 100000 in
theorem qJ13_316 : Cond.constantLong RJ13 316 (Int64.ofInt (3689348814741910323)) ∈ lwg := lwg_t3 12 (by decide +kernel) rfl
set_option maxRecDepth 100000 in
theorem qJ13_318 : Cond.constantLong RJ13 318 (Int64.ofInt (1085102592571150095)) ∈ lwg := lwg_t3 13 (by decide +kernel) rfl
set_option maxRecDepth 100000 in
theorem qJ6_265 : Cond.constant RJ6 265 (Int32.ofInt (1431655765)) ∈ lwg := lwg_t3 17 (by decide +kernel) rfl
set_option maxRecDepth 100000 in
theorem qJ6_266 : Cond.constant RJ6 266 (Int32.ofInt (858993459)) ∈ lwg := lwg_t3 18 (by decide +kernel) rfl
set_option maxRecDepth 100000 in
theorem qJ6_267 : Cond.constant RJ6 267 (Int32.ofInt (252645135)) ∈ lwg := lwg_t3 19 (by decide +kernel) rfl
set_option maxRecDepth 100000 in
theorem qX7_102 : Cond.constant RX7 102 (Int32.ofInt (1103515245)) ∈ lwg := lwg_t5 157 (by decide +kernel) rfl
set_option maxRecDepth 100000 in
theorem qX12_147 : Cond.constant RX12 147 (Int32.ofInt (1000000)) ∈ lwg := lwg_t7 163 (by decide +kernel) rfl
set_option maxRecDepth 100000 in
theorem qX12_105 : Cond.constant RX12 105 (Int32.ofInt (1103515245)) ∈ lwg := lwg_t8 101 (by decide +kernel) rfl
set_option maxRecDepth 100000 in
theorem qX12_465 : Cond.constant RX12 465 (Int32.ofInt (-1000000)) ∈ lwg := lwg_t9 118 (by decide +kernel) rfl
set_option maxRecDepth 100000 in
theorem qJ6_264 : Cond.constant RJ6 264 (Int32.ofInt (65536)) ∈ lwg := lwg_t9 137 (by decide +kernel) rfl
set_option maxRecDepth 100000 in
theorem lb_max : Cond.static Lib.Math.max.name ∈ lwg ∧ Cond.initialized "java/lang/Math" ∈ lwg ∧ Cond.code Lib.Math.max.name Lib.Math.max.code 2 (some .int) ∈ lwg := ⟨lwg_t2 206 (by decide +kernel) rfl, lwg_t1 26 (by decide +kernel) rfl, lwg_t2 207 (by decide +kernel) rfl⟩
set_option maxRecDepth 100000 in
theorem lb_min : Cond.static Lib.Math.min.name ∈ lwg ∧ Cond.initialized "java/lang/Math" ∈ lwg ∧ Cond.code Lib.Math.min.name Lib.Math.min.code 2 (some .int) ∈ lwg := ⟨lwg_t2 209 (by decide +kernel) rfl, lwg_t1 26 (by decide +kernel) rfl, lwg_t2 210 (by decide +kernel) rfl⟩
set_option maxRecDepth 100000 in
theorem lb_obj : Cond.instanceMethod Lib.objectInit ∈ lwg ∧ Cond.code Lib.objectInit ⟨#[0xb1]⟩ 1 none ∈ lwg := ⟨lwg_t1 37 (by decide +kernel) rfl, lwg_t1 38 (by decide +kernel) rfl⟩
set_option maxRecDepth 100000 in
theorem lb_cpy : Cond.native arraycopyName ∈ lwg ∧ Cond.static arraycopyName ∈ lwg ∧ Cond.initialized "java/lang/System" ∈ lwg := ⟨lwg_t3 111 (by decide +kernel) rfl, lwg_t3 110 (by decide +kernel) rfl, lwg_t1 15 (by decide +kernel) rfl⟩
set_option maxRecDepth 100000 in
theorem lb_int : Cond.arrayClass .int ∈ lwg := lwg_t1 67 (by decide +kernel) rfl
set_option maxRecDepth 100000 in
theorem lb_long : Cond.arrayClass .long ∈ lwg := lwg_t2 107 (by decide +kernel) rfl
set_option maxRecDepth 100000 in
theorem lb_byte : Cond.arrayClass .byte ∈ lwg := lwg_t4 164 (by decide +kernel) rfl
set_option maxRecDepth 100000 in
theorem lb_boolean : Cond.arrayClass .boolean ∈ lwg := lwg_t7 72 (by decide +kernel) rfl
set_option maxRecDepth 100000 in
theorem lb_towns : Cond.arrayOver (.object "HungryBench$Town") ∈ lwg := lwg_t2 115 (by decide +kernel) rfl
set_option maxRecDepth 100000 in
theorem wL_8 : NW RL 8 10 16 := ⟨RX11, TX11, tyX11, rfl, by decide, igX11, tyX11_ok, lwg_t1 31 (by decide +kernel) rfl, lwg_t1 32 (by decide +kernel) rfl, lwg_t1 1 (by decide +kernel) rfl, by decide +kernel⟩
set_option maxRecDepth 100000 in
theorem wX11_9 : NW RX11 9 8 6 := ⟨RX8, TX8, tyX8, rfl, by decide, igX8, tyX8_ok, lwg_t1 39 (by decide +kernel) rfl, lwg_t1 40 (by decide +kernel) rfl, lwg_t1 2 (by decide +kernel) rfl, by decide +kernel⟩
set_option maxRecDepth 100000 in
theorem wX11_16 : NW RX11 16 9 20 := ⟨RX10, TX10, tyX10, rfl, by decide, igX10, tyX10_ok, lwg_t1 68 (by decide +kernel) rfl, lwg_t1 69 (by decide +kernel) rfl, lwg_t1 3 (by decide +kernel) rfl, by decide +kernel⟩
set_option maxRecDepth 100000 in
theorem wX10_70 : NW RX10 70 4 3 := ⟨RX4, TX4, tyX4, rfl, by decide, igX4, tyX4_ok, lwg_t1 74 (by decide +kernel) rfl, lwg_t1 75 (by decide +kernel) rfl, lwg_t1 4 (by decide +kernel) rfl, by decide +kernel⟩
set_option maxRecDepth 100000 in
theorem wX11_29 : NW RX11 29 2 7 := ⟨RX2, TX2, tyX2, rfl, by decide, igX2, tyX2_ok, lwg_t1 218 (by decide +kernel) rfl, lwg_t1 219 (by decide +kernel) rfl, lwg_t1 6 (by decide +kernel) rfl, by decide +kernel⟩
set_option maxRecDepth 100000 in
theorem wX11_42 : NW RX11 42 0 3 := ⟨RX0, TX0, tyX0, rfl, by decide, igX0, tyX0_ok, lwg_t2 7 (by decide +kernel) rfl, lwg_t2 8 (by decide +kernel) rfl, lwg_t1 8 (by decide +kernel) rfl, by decide +kernel⟩
set_option maxRecDepth 100000 in
theorem wX11_51 : NW RX11 51 3 3 := ⟨RX3, TX3, tyX3, rfl, by decide, igX3, tyX3_ok, lwg_t2 30 (by decide +kernel) rfl, lwg_t2 31 (by decide +kernel) rfl, lwg_t1 9 (by decide +kernel) rfl, by decide +kernel⟩
set_option maxRecDepth 100000 in
theorem wX11_60 : NW RX11 60 1 3 := ⟨RX1, TX1, tyX1, rfl, by decide, igX1, tyX1_ok, lwg_t2 42 (by decide +kernel) rfl, lwg_t2 43 (by decide +kernel) rfl, lwg_t1 10 (by decide +kernel) rfl, by decide +kernel⟩
set_option maxRecDepth 100000 in
theorem wX11_69 : NW RX11 69 7 3 := ⟨RX7, TX7, tyX7, rfl, by decide, igX7, tyX7_ok, lwg_t2 58 (by decide +kernel) rfl, lwg_t2 59 (by decide +kernel) rfl, lwg_t1 11 (by decide +kernel) rfl, by decide +kernel⟩
set_option maxRecDepth 100000 in
theorem wX11_81 : NW RX11 81 5 8 := ⟨RX5, TX5, tyX5, rfl, by decide, igX5, tyX5_ok, lwg_t2 74 (by decide +kernel) rfl, lwg_t2 75 (by decide +kernel) rfl, lwg_t1 12 (by decide +kernel) rfl, by decide +kernel⟩
set_option maxRecDepth 100000 in
theorem wX11_88 : NW RX11 88 6 3 := ⟨RX6, TX6, tyX6, rfl, by decide, igX6, tyX6_ok, lwg_t2 108 (by decide +kernel) rfl, lwg_t2 109 (by decide +kernel) rfl, lwg_t1 13 (by decide +kernel) rfl, by decide +kernel⟩
set_option maxRecDepth 100000 in
theorem wX6_9 : NW RX6 9 9 20 := ⟨RX10, TX10, tyX10, rfl, by decide, igX10, tyX10_ok, lwg_t2 114 (by decide +kernel) rfl, lwg_t1 69 (by decide +kernel) rfl, lwg_t1 3 (by decide +kernel) rfl, by decide +kernel⟩
set_option maxRecDepth 100000 in
theorem waX6_9 : Cond.classLink RX6 9 "HungryBench$Town" ∈ lwg := lwg_t2 114 (by decide +kernel) rfl
set_option maxRecDepth 100000 in
theorem wL_128 : NW RL 128 11 31 := ⟨RX12, TX12, tyX12, rfl, by decide, igX12, tyX12_ok, lwg_t6 212 (by decide +kernel) rfl, lwg_t6 213 (by decide +kernel) rfl, lwg_t1 14 (by decide +kernel) rfl, by decide +kernel⟩
