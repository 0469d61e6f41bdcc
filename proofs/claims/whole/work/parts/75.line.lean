/-! A LINE OF THE ASSIZE -/
def jdW (w : Nat → Int) (m n u y : Int) : Nat → Int := fun i => if i = 0 then w 0 + 1 else if i = 80 + 4 * (w 0).toNat then u else if i = 81 + 4 * (w 0).toNat then m else if i = 82 + 4 * (w 0).toNat then n else if i = 83 + 4 * (w 0).toNat then y else w i
def csW (w : Nat → Int) (k a o l : Int) : Nat → Int := fun i => if i = 1 then w 1 + 1 else if i = 100 + 7 * (w 1).toNat then k else if i = 101 + 7 * (w 1).toNat then a else if i = 102 + 7 * (w 1).toNat then o else if i = 103 + 7 * (w 1).toNat then l else if i = 104 + 7 * (w 1).toNat then 0 else if i = 105 + 7 * (w 1).toNat then -1 else if i = 106 + 7 * (w 1).toNat then -1 else w i
def plW (w : Nat → Int) (j n c : Int) : Nat → Int := updW w (20 + (12 * j.toNat + n.toNat)) c
def asLine (t w : Nat → Int) (k : Nat) : Nat ⊕ (Nat × (Nat → Int)) :=
  if t k = 1000 then (if 5 ≤ w 0 then .inl k else rdW t (k + 1) 1010 fun k => rdN t k 0 99 fun m k => rdW t k 1002 fun k => rdN t k 0 9 fun n k => rdM t k 1001 99 0 fun u k => rdM t k 1011 99 0 fun y k => .inr (k, jdW w m n u y))
  else if t k = 1012 then (if 8 ≤ w 1 then .inl k else rdN t (k + 1) 1024 1029 fun kd k => rdW t k 1004 fun k => rdN t k 0 99 fun a k => rdM t k 1005 99 1 fun o k => rdM t k 1016 (w 1 - 1) (-1) fun l k => .inr (k, csW w kd a o l))
  else if t k = 1013 then rdN t (k + 1) 0 (w 0 - 1) fun j k => rdN t k 0 11 fun n k => if 0 ≤ t k ∧ t k < w 1 ∧ placeOf w (t k) < 0 then .inr (k + 1, plW w j n (t k)) else .inl k
  else if t k = 1014 then rdN t (k + 1) 0 11 fun n k => rdN t k 0 100 fun c k => .inr (k, updW w (8 + n.toNat) c)
  else if t k = 1006 then rdN t (k + 1) 0 11 fun n k => .inr (k, updW w 4 n)
  else if t k = 1015 then rdN t (k + 1) 0 999 fun n k => .inr (k, updW w 5 n)
  else .inl k
theorem WF.jd {w : Nat → Int} (h : WF w) (h5 : w 0 < 5) {m n u y : Int} (hm : 0 ≤ m ∧ m ≤ 99) (hn : 0 ≤ n ∧ n ≤ 9) (hu : 0 ≤ u ∧ u ≤ 99) (hy : 0 ≤ y ∧ y ≤ 99) : WF (jdW w m n u y) := by
  obtain ⟨a1, a2, a3, a4, a5, a6, a7, a8, a9, a10, a11, a12, a13, a14, a15, a16, a17⟩ := h
  obtain ⟨j, hj⟩ : ∃ j : Nat, j = (w 0).toNat := ⟨_, rfl⟩
  have e (i : Nat) : jdW w m n u y i = if i = 0 then w 0 + 1 else if i = 80 + 4 * j then u else if i = 81 + 4 * j then m else if i = 82 + 4 * j then n else if i = 83 + 4 * j then y else w i := by rw [hj]; rfl
  have ew {i : Nat} (h1 : i ≠ 0) (h2 : i < 80 ∨ 100 ≤ i) : jdW w m n u y i = w i := by
    rw [e, if_neg h1, if_neg (by omega), if_neg (by omega), if_neg (by omega), if_neg (by omega)]
  have e0 : jdW w m n u y 0 = w 0 + 1 := rfl
  refine ⟨by rw [e0]; omega, by rw [ew (by omega) (by omega)]; exact a2, by rw [ew (by omega) (by omega)]; exact a3, by rw [ew (by omega) (by omega)]; exact a4, by rw [ew (by omega) (by omega)]; exact a5, by rw [ew (by omega) (by omega)]; exact a6, by rw [ew (by omega) (by omega)]; exact a7, by rw [ew (by omega) (by omega)]; exact a8, fun k hk => by rw [ew (by omega) (by omega)]; exact a9 k hk, fun p hp => by rw [ew (by omega) (by omega), ew (by omega) (by omega)]; exact a10 p hp, fun p q hp hq => by rw [ew (by omega) (by omega), ew (by omega) (by omega)]; exact a11 p q hp hq, fun p hp h9 => by rw [ew (by omega) (by omega)]; rw [e0] at h9; exact a12 p hp (by omega), fun i hi => ?_, fun c hc => ?_, fun c hc => ?_, fun c hc h9 => ?_, fun r i hr hi => by rw [ew (by omega) (by omega)]; exact a17 r i hr hi⟩
  · have := a13 i hi
    by_cases q : i = j
    · subst q
      rw [e, e, e, e, if_neg (by omega), if_pos rfl, if_neg (by omega), if_neg (by omega), if_pos rfl, if_neg (by omega), if_neg (by omega), if_neg (by omega), if_pos rfl, if_neg (by omega), if_neg (by omega), if_neg (by omega), if_neg (by omega), if_pos rfl]
      exact ⟨hu, hm, hn, hy⟩
    · have ei {x : Nat} (h1 : 80 + 4 * i ≤ x) (h2 : x ≤ 83 + 4 * i) : jdW w m n u y x = w x := by
        rw [e, if_neg (by omega), if_neg (by omega), if_neg (by omega), if_neg (by omega), if_neg (by omega)]
      rw [ei (by omega) (by omega), ei (by omega) (by omega), ei (by omega) (by omega), ei (by omega) (by omega)]
      exact this
  · rw [ew (by omega) (by omega), ew (by omega) (by omega), ew (by omega) (by omega), ew (by omega) (by omega), ew (by omega) (by omega), ew (by omega) (by omega), ew (by omega) (by omega)]
    exact a14 c hc
  · rw [ew (by omega) (by omega)] at hc ⊢
    exact a15 c hc
  · rw [ew (by omega) (by omega)] at h9 ⊢
    exact a16 c hc h9
theorem WF.cs {w : Nat → Int} (h : WF w) (h8 : w 1 < 8) {k a o l : Int} (hk : 0 ≤ k ∧ k ≤ 5) (ha : 0 ≤ a ∧ a ≤ 99) (ho : 0 ≤ o ∧ o ≤ 99) (hl : -1 ≤ l ∧ l < w 1) : WF (csW w k a o l) := by
  obtain ⟨a1, a2, a3, a4, a5, a6, a7, a8, a9, a10, a11, a12, a13, a14, a15, a16, a17⟩ := h
  obtain ⟨j, hj⟩ : ∃ j : Nat, j = (w 1).toNat := ⟨_, rfl⟩
  have e (i : Nat) : csW w k a o l i = if i = 1 then w 1 + 1 else if i = 100 + 7 * j then k else if i = 101 + 7 * j then a else if i = 102 + 7 * j then o else if i = 103 + 7 * j then l else if i = 104 + 7 * j then 0 else if i = 105 + 7 * j then -1 else if i = 106 + 7 * j then -1 else w i := by rw [hj]; rfl
  have ew {i : Nat} (h1 : i ≠ 1) (h2 : i < 100 ∨ 156 ≤ i) : csW w k a o l i = w i := by
    rw [e, if_neg h1, if_neg (by omega), if_neg (by omega), if_neg (by omega), if_neg (by omega), if_neg (by omega), if_neg (by omega), if_neg (by omega)]
  have ei {c x : Nat} (hc : c ≠ j) (h1 : 100 + 7 * c ≤ x) (h2 : x ≤ 106 + 7 * c) : csW w k a o l x = w x := by
    rw [e, if_neg (by omega), if_neg (by omega), if_neg (by omega), if_neg (by omega), if_neg (by omega), if_neg (by omega), if_neg (by omega), if_neg (by omega)]
  have e1 : csW w k a o l 1 = w 1 + 1 := rfl
  refine ⟨by rw [ew (by omega) (by omega)]; exact a1, by rw [e1]; omega, by rw [ew (by omega) (by omega)]; exact a3, by rw [ew (by omega) (by omega)]; exact a4, by rw [ew (by omega) (by omega)]; exact a5, by rw [ew (by omega) (by omega)]; exact a6, by rw [ew (by omega) (by omega)]; exact a7, by rw [ew (by omega) (by omega)]; exact a8, fun k hk => by rw [ew (by omega) (by omega)]; exact a9 k hk, fun p hp => by rw [ew (by omega) (by omega), e1]; have := a10 p hp; omega, fun p q hp hq => by rw [ew (by omega) (by omega), ew (by omega) (by omega)]; exact a11 p q hp hq, fun p hp h9 => by rw [ew (by omega) (by omega)] at h9 ⊢; exact a12 p hp h9, fun i hi => ?_, fun c hc => ?_, fun c hc => ?_, fun c hc h9 => ?_, fun r i hr hi => by rw [ew (by omega) (by omega)]; exact a17 r i hr hi⟩
  · rw [ew (by omega) (by omega), ew (by omega) (by omega), ew (by omega) (by omega), ew (by omega) (by omega)]
    exact a13 i hi
  · have := a14 c hc
    by_cases q : c = j
    · subst q
      have f0 : csW w k a o l (100 + 7 * c) = k := by rw [e, if_neg (by omega), if_pos rfl]
      have f1 : csW w k a o l (101 + 7 * c) = a := by rw [e, if_neg (by omega), if_neg (by omega), if_pos rfl]
      have f2 : csW w k a o l (102 + 7 * c) = o := by rw [e, if_neg (by omega), if_neg (by omega), if_neg (by omega), if_pos rfl]
      have f3 : csW w k a o l (103 + 7 * c) = l := by rw [e, if_neg (by omega), if_neg (by omega), if_neg (by omega), if_neg (by omega), if_pos rfl]
      have f4 : csW w k a o l (104 + 7 * c) = 0 := by rw [e, if_neg (by omega), if_neg (by omega), if_neg (by omega), if_neg (by omega), if_neg (by omega), if_pos rfl]
      have f5 : csW w k a o l (105 + 7 * c) = -1 := by rw [e, if_neg (by omega), if_neg (by omega), if_neg (by omega), if_neg (by omega), if_neg (by omega), if_neg (by omega), if_pos rfl]
      have f6 : csW w k a o l (106 + 7 * c) = -1 := by rw [e, if_neg (by omega), if_neg (by omega), if_neg (by omega), if_neg (by omega), if_neg (by omega), if_neg (by omega), if_neg (by omega), if_pos rfl]
      rw [f0, f1, f2, f3, f4, f5, f6]
      omega
    · rw [ei q (by omega) (by omega), ei q (by omega) (by omega), ei q (by omega) (by omega), ei q (by omega) (by omega), ei q (by omega) (by omega), ei q (by omega) (by omega), ei q (by omega) (by omega)]
      exact this
  · rw [e1] at hc
    by_cases q : c = j
    · subst q
      rw [show csW w k a o l (103 + 7 * c) = l by rw [e, if_neg (by omega), if_neg (by omega), if_neg (by omega), if_neg (by omega), if_pos rfl]]
      omega
    · rw [ei q (by omega) (by omega)]
      exact a15 c (by omega)
  · rw [e1] at h9
    rw [ei (c := c) (by omega) (by omega) (by omega)]
    exact a16 c hc (by omega)
theorem updH_e (h : Hc) (a i : Nat) (v : Int) (j : Nat) : updH h a i v a j = if j = i then v else h a j := by simp [updH]
theorem Tw.jd {h : Hc} {t : Nat} {w : Nat → Int} (q : Tw h t w) {j : Nat} (hj : w 0 = (j : Int)) (h5 : j < 5) (m n u y : Int) : Tw (updH (updH (updH (updH (updH h (t + 2) j m) (t + 3) j n) (t + 1) j u) (t + 4) j y) t 0 ((j + 1 : Nat) : Int)) t (jdW w m n u y) := by
  obtain ⟨⟨q0, q1, q2, q3, q4, q5⟩, q6, q7, q8, q9, q10, q11, q12, q13, q14⟩ := q
  obtain ⟨H, hH⟩ : ∃ H, H = updH (updH (updH (updH (updH h (t + 2) j m) (t + 3) j n) (t + 1) j u) (t + 4) j y) t 0 ((j + 1 : Nat) : Int) := ⟨_, rfl⟩
  rw [← hH]
  have e (i : Nat) : jdW w m n u y i = if i = 0 then w 0 + 1 else if i = 80 + 4 * j then u else if i = 81 + 4 * j then m else if i = 82 + 4 * j then n else if i = 83 + 4 * j then y else w i := by
    have e9 : j = (w 0).toNat := by omega
    rw [e9]; rfl
  have ew {i : Nat} (h1 : i ≠ 0) (h2 : i < 80 ∨ 100 ≤ i) : jdW w m n u y i = w i := by
    rw [e, if_neg h1, if_neg (by omega), if_neg (by omega), if_neg (by omega), if_neg (by omega)]
  have ft {i : Nat} (hi : i ≠ 0) : H t i = h t i := by rw [hH, updH_i hi, updH_a (by omega), updH_a (by omega), updH_a (by omega), updH_a (by omega)]
  have fo {a : Nat} (ha : t + 4 < a) : H a = h a := by rw [hH, updH_a (by omega), updH_a (by omega), updH_a (by omega), updH_a (by omega), updH_a (by omega)]
  have f1 (i : Nat) : H (t + 1) i = if i = j then u else h (t + 1) i := by rw [hH, updH_a (by omega), updH_a (by omega), updH_e, updH_a (by omega), updH_a (by omega)]
  have f2 (i : Nat) : H (t + 2) i = if i = j then m else h (t + 2) i := by rw [hH, updH_a (by omega), updH_a (by omega), updH_a (by omega), updH_a (by omega), updH_e]
  have f3 (i : Nat) : H (t + 3) i = if i = j then n else h (t + 3) i := by rw [hH, updH_a (by omega), updH_a (by omega), updH_a (by omega), updH_e, updH_a (by omega)]
  have f4 (i : Nat) : H (t + 4) i = if i = j then y else h (t + 4) i := by rw [hH, updH_a (by omega), updH_e, updH_a (by omega), updH_a (by omega), updH_a (by omega)]
  refine ⟨⟨?_, by rw [ft (by decide), ew (by decide) (by omega)]; exact q1, by rw [ft (by decide), ew (by decide) (by omega)]; exact q2, by rw [ft (by decide), ew (by decide) (by omega)]; exact q3, by rw [ft (by decide), ew (by decide) (by omega)]; exact q4, by rw [ft (by decide), ew (by decide) (by omega)]; exact q5⟩, fun i hi => ?_, fun c hc => ?_, fun c hc => ?_, fun c hc h9 => ?_, fun p hp => ?_, fun k hk => ?_, ?_, ?_, fun ago i h1 h2 => ?_⟩
  · rw [hH, updH_s, e, if_pos rfl, hj]; omega
  · rw [f1, f2, f3, f4]
    by_cases c : i = j
    · subst c
      rw [if_pos rfl, if_pos rfl, if_pos rfl, if_pos rfl, e, e, e, e, if_neg (by omega), if_pos rfl, if_neg (by omega), if_neg (by omega), if_pos rfl, if_neg (by omega), if_neg (by omega), if_neg (by omega), if_pos rfl, if_neg (by omega), if_neg (by omega), if_neg (by omega), if_neg (by omega), if_pos rfl]
      exact ⟨rfl, rfl, rfl, rfl⟩
    · have ei {x : Nat} (h1 : 80 + 4 * i ≤ x) (h2 : x ≤ 83 + 4 * i) : jdW w m n u y x = w x := by
        rw [e, if_neg (by omega), if_neg (by omega), if_neg (by omega), if_neg (by omega), if_neg (by omega)]
      rw [if_neg c, if_neg c, if_neg c, if_neg c, ei (by omega) (by omega), ei (by omega) (by omega), ei (by omega) (by omega), ei (by omega) (by omega)]
      exact q6 i hi
  · rw [fo (by omega), fo (by omega), fo (by omega), fo (by omega), ew (by omega) (by omega), ew (by omega) (by omega), ew (by omega) (by omega), ew (by omega) (by omega)]
    exact q7 c hc
  · rw [ew (by omega) (by omega)] at hc
    rw [fo (by omega), fo (by omega), fo (by omega), ew (by omega) (by omega), ew (by omega) (by omega), ew (by omega) (by omega)]
    exact q8 c hc
  · rw [ew (by omega) (by omega)] at h9
    rw [fo (by omega), fo (by omega)]
    exact q9 c hc h9
  · rw [fo (by omega), ew (by omega) (by omega)]; exact q10 p hp
  · rw [fo (by omega), ew (by omega) (by omega)]; exact q11 k hk
  · rw [fo (by omega), ew (by omega) (by omega)]; exact q12
  · rw [fo (by omega)]; exact q13
  · rw [ew (by omega) (by omega)] at h1
    rw [fo (by omega), fo (by omega), ew (by omega) (by omega), ew (by omega) (by omega)]
    exact q14 ago i h1 h2
theorem Tw.cs {h : Hc} {t : Nat} {w : Nat → Int} (q : Tw h t w) (hf : WF w) {j : Nat} (hj : w 1 = (j : Int)) (h8 : j < 8) (k a o l : Int) : Tw (updH (updH (updH (updH (updH h (t + 5) j k) (t + 6) j a) (t + 7) j o) (t + 8) j l) t 1 ((j + 1 : Nat) : Int)) t (csW w k a o l) := by
  have hst := hf.2.2.2.2.2.2.2.2.2.2.2.2.2.2.2.1
  obtain ⟨⟨q0, q1, q2, q3, q4, q5⟩, q6, q7, q8, q9, q10, q11, q12, q13, q14⟩ := q
  obtain ⟨H, hH⟩ : ∃ H, H = updH (updH (updH (updH (updH h (t + 5) j k) (t + 6) j a) (t + 7) j o) (t + 8) j l) t 1 ((j + 1 : Nat) : Int) := ⟨_, rfl⟩
  rw [← hH]
  have e (i : Nat) : csW w k a o l i = if i = 1 then w 1 + 1 else if i = 100 + 7 * j then k else if i = 101 + 7 * j then a else if i = 102 + 7 * j then o else if i = 103 + 7 * j then l else if i = 104 + 7 * j then 0 else if i = 105 + 7 * j then -1 else if i = 106 + 7 * j then -1 else w i := by
    have e9 : j = (w 1).toNat := by omega
    rw [e9]; rfl
  have ew {i : Nat} (h1 : i ≠ 1) (h2 : i < 100 ∨ 156 ≤ i) : csW w k a o l i = w i := by
    rw [e, if_neg h1, if_neg (by omega), if_neg (by omega), if_neg (by omega), if_neg (by omega), if_neg (by omega), if_neg (by omega), if_neg (by omega)]
  have ei {c x : Nat} (hc : c ≠ j) (h1 : 100 + 7 * c ≤ x) (h2 : x ≤ 106 + 7 * c) : csW w k a o l x = w x := by
    rw [e, if_neg (by omega), if_neg (by omega), if_neg (by omega), if_neg (by omega), if_neg (by omega), if_neg (by omega), if_neg (by omega), if_neg (by omega)]
  have g0 : csW w k a o l (100 + 7 * j) = k := by rw [e, if_neg (by omega), if_pos rfl]
  have g1 : csW w k a o l (101 + 7 * j) = a := by rw [e, if_neg (by omega), if_neg (by omega), if_pos rfl]
  have g2 : csW w k a o l (102 + 7 * j) = o := by rw [e, if_neg (by omega), if_neg (by omega), if_neg (by omega), if_pos rfl]
  have g3 : csW w k a o l (103 + 7 * j) = l := by rw [e, if_neg (by omega), if_neg (by omega), if_neg (by omega), if_neg (by omega), if_pos rfl]
  have g4 : csW w k a o l (104 + 7 * j) = 0 := by rw [e, if_neg (by omega), if_neg (by omega), if_neg (by omega), if_neg (by omega), if_neg (by omega), if_pos rfl]
  have g5 : csW w k a o l (105 + 7 * j) = -1 := by rw [e, if_neg (by omega), if_neg (by omega), if_neg (by omega), if_neg (by omega), if_neg (by omega), if_neg (by omega), if_pos rfl]
  have g6 : csW w k a o l (106 + 7 * j) = -1 := by rw [e, if_neg (by omega), if_neg (by omega), if_neg (by omega), if_neg (by omega), if_neg (by omega), if_neg (by omega), if_neg (by omega), if_pos rfl]
  have e1 : csW w k a o l 1 = w 1 + 1 := rfl
  have ft {i : Nat} (hi : i ≠ 1) : H t i = h t i := by rw [hH, updH_i hi, updH_a (by omega), updH_a (by omega), updH_a (by omega), updH_a (by omega)]
  have fo {x : Nat} (h0 : x ≠ t) (hx : x < t + 5 ∨ t + 8 < x) : H x = h x := by rw [hH, updH_a (by omega), updH_a (by omega), updH_a (by omega), updH_a (by omega), updH_a (by omega)]
  have f1 (i : Nat) : H (t + 5) i = if i = j then k else h (t + 5) i := by rw [hH, updH_a (by omega), updH_a (by omega), updH_a (by omega), updH_a (by omega), updH_e]
  have f2 (i : Nat) : H (t + 6) i = if i = j then a else h (t + 6) i := by rw [hH, updH_a (by omega), updH_a (by omega), updH_a (by omega), updH_e, updH_a (by omega)]
  have f3 (i : Nat) : H (t + 7) i = if i = j then o else h (t + 7) i := by rw [hH, updH_a (by omega), updH_a (by omega), updH_e, updH_a (by omega), updH_a (by omega)]
  have f4 (i : Nat) : H (t + 8) i = if i = j then l else h (t + 8) i := by rw [hH, updH_a (by omega), updH_e, updH_a (by omega), updH_a (by omega), updH_a (by omega)]
  refine ⟨⟨by rw [ft (by decide), ew (by decide) (by omega)]; exact q0, ?_, by rw [ft (by decide), ew (by decide) (by omega)]; exact q2, by rw [ft (by decide), ew (by decide) (by omega)]; exact q3, by rw [ft (by decide), ew (by decide) (by omega)]; exact q4, by rw [ft (by decide), ew (by decide) (by omega)]; exact q5⟩, fun i hi => ?_, fun c hc => ?_, fun c hc => ?_, fun c hc h9 => ?_, fun p hp => ?_, fun k hk => ?_, ?_, ?_, fun ago i h1 h2 => ?_⟩
  · rw [hH, updH_s, e1, hj]; omega
  · rw [fo (by omega) (by omega), fo (by omega) (by omega), fo (by omega) (by omega), fo (by omega) (by omega), ew (by omega) (by omega), ew (by omega) (by omega), ew (by omega) (by omega), ew (by omega) (by omega)]
    exact q6 i hi
  · rw [f1, f2, f3, fo (by omega) (by omega)]
    have hs := (q7 c hc).2.2.2
    by_cases p : c = j
    · subst p
      rw [if_pos rfl, if_pos rfl, if_pos rfl, g0, g1, g2, g4, hs]
      exact ⟨rfl, rfl, rfl, hst c hc (by omega)⟩
    · rw [if_neg p, if_neg p, if_neg p, ei p (by omega) (by omega), ei p (by omega) (by omega), ei p (by omega) (by omega), ei p (by omega) (by omega)]
      exact q7 c hc
  · rw [e1] at hc
    rw [f4, fo (by omega) (by omega), fo (by omega) (by omega)]
    by_cases p : c = j
    · subst p
      rw [if_pos rfl, g3, g5, g6]
      exact ⟨rfl, q9 c h8 (by omega)⟩
    · rw [if_neg p, ei p (by omega) (by omega), ei p (by omega) (by omega), ei p (by omega) (by omega)]
      exact q8 c (by omega)
  · rw [e1] at h9
    rw [fo (by omega) (by omega), fo (by omega) (by omega)]
    exact q9 c hc (by omega)
  · rw [fo (by omega) (by omega), ew (by omega) (by omega)]; exact q10 p hp
  · rw [fo (by omega) (by omega), ew (by omega) (by omega)]; exact q11 k hk
  · rw [fo (by omega) (by omega), ew (by omega) (by omega)]; exact q12
  · rw [fo (by omega) (by omega)]; exact q13
  · rw [ew (by omega) (by omega)] at h1
    rw [fo (by omega) (by omega), fo (by omega) (by omega), ew (by omega) (by omega), ew (by omega) (by omega)]
    exact q14 ago i h1 h2
