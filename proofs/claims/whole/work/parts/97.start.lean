/-! THE WORLD AT THE LAW'S ENTRY -/
def uoT : List Nat := [0, 8, 1, 2, 3, 4, 9, 5, 6, 7, 10, 11, 12, 13, 21, 22, 23, 24, 18, 15, 16, 17, 14, 19, 20]
def pmT : List Nat := [0, 2, 3, 4, 5, 7, 8, 9, 1, 6, 10, 11, 12, 13, 22, 19, 20, 21, 18, 23, 24, 14, 15, 16, 17]
def txM (i : Nat) : Term := Term.string ((sT.getD i ("", 0, "")).1) ((sT.getD i ("", 0, "")).2.1)
def byM (i : Nat) : List Int := sB.getD i []
def vaM (i : Nat) : Term := Term.field (txM i) "java/lang/String" "value" "[B"
def segM (p : Nat) : List Cond :=
  [Cond.exactly (txM (uoT.getD p 0)) "java/lang/String", Cond.eq (Term.field (txM (uoT.getD p 0)) "java/lang/String" "coder" "B") (Term.int 0), Cond.arrayOf (vaM (uoT.getD p 0)) .byte, Cond.eq (Term.length (vaM (uoT.getD p 0))) (Term.int (Int32.ofNat (byM (uoT.getD p 0)).length))] ++ ((List.range (byM (uoT.getD p 0)).length).map (fun j => Cond.eq (Term.elem (vaM (uoT.getD p 0)) (Term.int (Int32.ofNat j))) (Term.int (Int32.ofInt ((byM (uoT.getD p 0)).getD j 0)))) ++ (List.range p).map (fun q => Cond.not (Cond.eq (txM (uoT.getD q 0)) (txM (uoT.getD p 0)))))
theorem segs_all : (Jvm.Free.XT.flat (Jvm.Cond.and given_1 narrow_1)).drop 91 = (List.range 25).flatMap segM := by decide +kernel
theorem segs_mem {p : Nat} (hp : p < 25) {w : Cond} (h : w ∈ segM p) : w ∈ Jvm.Free.XT.flat (Jvm.Cond.and given_1 narrow_1) := by
  refine List.mem_of_mem_drop (i := 91) ?_
  rw [segs_all]
  exact List.mem_flatMap.mpr ⟨p, List.mem_range.mpr hp, h⟩
theorem pm_ok : ∀ i, i < 25 → pmT.getD i 0 < 25 ∧ uoT.getD (pmT.getD i 0) 0 = i := by decide +kernel
theorem pm_inj : ∀ i, i < 25 → ∀ j, j < 25 → i ≠ j → pmT.getD i 0 < pmT.getD j 0 ∨ pmT.getD j 0 < pmT.getD i 0 := by decide +kernel
theorem len_ok : ∀ i, i < 25 → (sB.map List.length).getD i 0 = (byM i).length ∧ (byM i).length < 200 := by decide +kernel
theorem byt_ok : ∀ i, i < 25 → ∀ j, j < (byM i).length → ((sB.map (fun l => l.map Int32.ofInt)).getD i []).getD j 0 = Int32.ofInt ((byM i).getD j 0) := by decide +kernel
theorem seg_1 {i : Nat} (hi : i < 25) : Cond.exactly (txM i) "java/lang/String" ∈ Jvm.Free.XT.flat (Jvm.Cond.and given_1 narrow_1) := segs_mem (pm_ok i hi).1 (by unfold segM; rw [(pm_ok i hi).2]; exact List.mem_append_left _ List.mem_cons_self)
theorem seg_2 {i : Nat} (hi : i < 25) : Cond.eq (Term.field (txM i) "java/lang/String" "coder" "B") (Term.int 0) ∈ Jvm.Free.XT.flat (Jvm.Cond.and given_1 narrow_1) := segs_mem (pm_ok i hi).1 (by unfold segM; rw [(pm_ok i hi).2]; exact List.mem_append_left _ (List.mem_cons_of_mem _ List.mem_cons_self))
theorem seg_3 {i : Nat} (hi : i < 25) : Cond.arrayOf (vaM i) .byte ∈ Jvm.Free.XT.flat (Jvm.Cond.and given_1 narrow_1) := segs_mem (pm_ok i hi).1 (by unfold segM; rw [(pm_ok i hi).2]; exact List.mem_append_left _ (List.mem_cons_of_mem _ (List.mem_cons_of_mem _ List.mem_cons_self)))
theorem seg_4 {i : Nat} (hi : i < 25) : Cond.eq (Term.length (vaM i)) (Term.int (Int32.ofNat (byM i).length)) ∈ Jvm.Free.XT.flat (Jvm.Cond.and given_1 narrow_1) := segs_mem (pm_ok i hi).1 (by unfold segM; rw [(pm_ok i hi).2]; exact List.mem_append_left _ (List.mem_cons_of_mem _ (List.mem_cons_of_mem _ (List.mem_cons_of_mem _ List.mem_cons_self))))
theorem seg_5 {i j : Nat} (hi : i < 25) (hj : j < (byM i).length) : Cond.eq (Term.elem (vaM i) (Term.int (Int32.ofNat j))) (Term.int (Int32.ofInt ((byM i).getD j 0))) ∈ Jvm.Free.XT.flat (Jvm.Cond.and given_1 narrow_1) := segs_mem (pm_ok i hi).1 (by unfold segM; rw [(pm_ok i hi).2]; exact List.mem_append_right _ (List.mem_append_left _ (List.mem_map.mpr ⟨j, List.mem_range.mpr hj, rfl⟩)))
theorem seg_6 {i j : Nat} (hi : i < 25) (hj : j < 25) (hq : pmT.getD i 0 < pmT.getD j 0) : Cond.not (Cond.eq (txM i) (txM j)) ∈ Jvm.Free.XT.flat (Jvm.Cond.and given_1 narrow_1) := segs_mem (pm_ok j hj).1 (by unfold segM; rw [(pm_ok j hj).2]; exact List.mem_append_right _ (List.mem_append_right _ (List.mem_map.mpr ⟨_, List.mem_range.mpr hq, by rw [(pm_ok i hi).2]⟩)))
theorem st_texts {b : Nat} {s : State} {A : Nat → Prop} (hg : ∀ w ∈ Jvm.Free.XT.flat (Jvm.Cond.and given_1 narrow_1), w.before #[Value.ref b] s = true) (hA : ∀ a : Nat, a < s.heap.size → ¬ A a) : ∃ adK adV : Nat → Nat, vk_S 25 (sB.map List.length) (sB.map (fun l => l.map Int32.ofInt)) adK adV A s s.heap ∧ ∀ i : Nat, i < 25 → (txM i).eval #[Value.ref b] s none [] s = some (.ref (adK i)) := by
  refine vk_Sof (tm := txM) (fun i hi => ?_) (fun i hi => hg _ (seg_1 hi)) (fun i hi => hg _ (seg_2 hi)) (fun i hi => hg _ (seg_3 hi)) (fun i hi => ?_) (fun i hi j hj => ?_) (fun i j hi hj h => ?_) hA
  · have := len_ok i hi; omega
  · rw [(len_ok i hi).1]; exact hg _ (seg_4 hi)
  · rw [(len_ok i hi).1] at hj; rw [byt_ok i hi j hj]; exact hg _ (seg_5 hi hj)
  · rcases pm_inj i hi j hj h with q | q
    · exact Or.inl (hg _ (seg_6 hi hj q))
    · exact Or.inr (hg _ (seg_6 hj hi q))
theorem st_arr {s : State} {args : Array Value} {ty : FieldType} (h : (Cond.arrayClass ty).before args s = true) (hr : ∀ cA, s.vm.findClass ("[" ++ ty.toString) = some cA → va_RA s cA ty) : ∃ cA, ArrOfT s cA ty ∧ va_RA s cA ty := by
  obtain ⟨cA, kA, comp, hfind, hk, hkind⟩ := Cond.arrayClass_spec h
  exact ⟨cA, fun n z => ⟨(fun k h => nomatch h), kA, hk, comp, hkind⟩, hr cA hfind⟩
theorem st_arrO {s : State} {args : Array Value} {C : String} (h : (Cond.arrayOver (.object C)).before args s = true) : ∃ cA, ArrOfT s cA (.object C) ∧ va_RA s cA (.object C) := by
  obtain ⟨comp, cA, kA, hcomp, hidx, hk, hkind, hname⟩ := Cond.arrayOver_spec h
  exact ⟨cA, fun n z => ⟨(fun k h => nomatch h), kA, hk, comp, hkind⟩, kA, comp, hk, hkind, hcomp, hname⟩
theorem st_cls {b : Nat} {s : State} (hts9 : ∀ w ∈ lwg, w.before #[Value.ref b] s = true) : ∃ (dC : Nat → ClassId) (dI : Nat → Nat → Nat), ∀ (k : Nat) (q : vw_C), vwCl[k]? = some q → u_Kn s q.1 q.2.1 q.2.2 (dC k) (dI k) := by
  have one : ∀ (k : Nat) (q : vw_C), vwCl[k]? = some q → ∃ (c : ClassId) (i : Nat → Nat), u_Kn s q.1 q.2.1 q.2.2 c i := fun k q hq => match k, q, hq with
    | 0, q, hq => by cases hq; exact u_known (ws := lwg) hts9 igX0 (hts9 (.instantiable RX0 3) (lwg_t2 8 (by decide +kernel) rfl))
    | 1, q, hq => by cases hq; exact u_known (ws := lwg) hts9 igX1 (hts9 (.instantiable RX1 3) (lwg_t2 43 (by decide +kernel) rfl))
    | 2, q, hq => by cases hq; exact u_known (ws := lwg) hts9 igX2 (hts9 (.instantiable RX2 7) (lwg_t1 219 (by decide +kernel) rfl))
    | 3, q, hq => by cases hq; exact u_known (ws := lwg) hts9 igX3 (hts9 (.instantiable RX3 3) (lwg_t2 31 (by decide +kernel) rfl))
    | 4, q, hq => by cases hq; exact u_known (ws := lwg) hts9 igX4 (hts9 (.instantiable RX4 3) (lwg_t1 75 (by decide +kernel) rfl))
    | 5, q, hq => by cases hq; exact u_known (ws := lwg) hts9 igX5 (hts9 (.instantiable RX5 8) (lwg_t2 75 (by decide +kernel) rfl))
    | 6, q, hq => by cases hq; exact u_known (ws := lwg) hts9 igX6 (hts9 (.instantiable RX6 3) (lwg_t2 109 (by decide +kernel) rfl))
    | 7, q, hq => by cases hq; exact u_known (ws := lwg) hts9 igX7 (hts9 (.instantiable RX7 3) (lwg_t2 59 (by decide +kernel) rfl))
    | 8, q, hq => by cases hq; exact u_known (ws := lwg) hts9 igX8 (hts9 (.instantiable RX8 6) (lwg_t1 40 (by decide +kernel) rfl))
    | 9, q, hq => by cases hq; exact u_known (ws := lwg) hts9 igX10 (hts9 (.instantiable RX10 20) (lwg_t1 69 (by decide +kernel) rfl))
    | 10, q, hq => by cases hq; exact u_known (ws := lwg) hts9 igX11 (hts9 (.instantiable RX11 16) (lwg_t1 32 (by decide +kernel) rfl))
    | 11, q, hq => by cases hq; exact u_known (ws := lwg) hts9 igX12 (hts9 (.instantiable RX12 31) (lwg_t6 213 (by decide +kernel) rfl))
    | k + 12, q, hq => by simp [vwCl] at hq
  have all : ∀ k : Nat, ∃ r : ClassId × (Nat → Nat), ∀ q : vw_C, vwCl[k]? = some q → u_Kn s q.1 q.2.1 q.2.2 r.1 r.2 := by
    intro k
    cases hq : vwCl[k]? with
    | none =>
      obtain ⟨c, i, -⟩ := one 0 _ rfl
      exact ⟨(c, i), fun q h => nomatch h⟩
    | some q =>
      obtain ⟨c, i, h⟩ := one k q hq
      exact ⟨(c, i), fun q2 h2 => by cases h2; exact h⟩
  obtain ⟨f, hf⟩ := Classical.axiomOfChoice all
  exact ⟨fun k => (f k).1, fun k => (f k).2, hf⟩
