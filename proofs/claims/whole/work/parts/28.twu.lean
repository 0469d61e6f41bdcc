/-! A TOWN AND ITS ROW CHANGED TOGETHER -/
theorem Tw.uhu {h : Hc} {t : Nat} {w : Nat → Int} {v : Int} (q : Tw h t w) {k : Nat} (hk0 : k < 5) : Tw (updH h (t + 1) k v) t (updW w (80 + 4 * k) v) := by
  obtain ⟨⟨q0, q1, q2, q3, q4, q5⟩, q6, q7, q8, q9, q10, q11, q12, q13, q14⟩ := q
  refine ⟨⟨(by rw [updH_a (by omega), updW_n (by omega)]; exact q0), (by rw [updH_a (by omega), updW_n (by omega)]; exact q1), (by rw [updH_a (by omega), updW_n (by omega)]; exact q2), (by rw [updH_a (by omega), updW_n (by omega)]; exact q3), (by rw [updH_a (by omega), updW_n (by omega)]; exact q4), (by rw [updH_a (by omega), updW_n (by omega)]; exact q5)⟩, fun j hj => ⟨(by
    by_cases e : j = k
    · subst e; rw [updH_s, updW_s]
    · rw [updH_i e, updW_n (by omega)]; exact (q6 j hj).1), (by rw [updH_a (by omega), updW_n (by omega)]; exact (q6 j hj).2.1), (by rw [updH_a (by omega), updW_n (by omega)]; exact (q6 j hj).2.2.1), (by rw [updH_a (by omega), updW_n (by omega)]; exact (q6 j hj).2.2.2)⟩,
    fun c hc => ⟨(by rw [updH_a (by omega), updW_n (by omega)]; exact (q7 c hc).1), (by rw [updH_a (by omega), updW_n (by omega)]; exact (q7 c hc).2.1), (by rw [updH_a (by omega), updW_n (by omega)]; exact (q7 c hc).2.2.1), (by rw [updH_a (by omega), updW_n (by omega)]; exact (q7 c hc).2.2.2)⟩,
    fun c hc => ?_, fun c hc hc2 => ?_, fun p hp => (by rw [updH_a (by omega), updW_n (by omega)]; exact q10 p hp), fun k9 hk => (by rw [updH_a (by omega), updW_n (by omega)]; exact q11 k9 hk), (by rw [updH_a (by omega), updW_n (by omega)]; exact q12), ?_, ?_⟩
  · rw [updW_n (by omega)] at hc
    exact ⟨(by rw [updH_a (by omega), updW_n (by omega)]; exact (q8 c hc).1), (by rw [updH_a (by omega), updW_n (by omega)]; exact (q8 c hc).2.1), (by rw [updH_a (by omega), updW_n (by omega)]; exact (q8 c hc).2.2)⟩
  · rw [updW_n (by omega)] at hc2
    exact ⟨(by rw [updH_a (by omega)]; exact (q9 c hc hc2).1), (by rw [updH_a (by omega)]; exact (q9 c hc hc2).2)⟩
  · rw [updH_a (by omega)]; exact q13
  · intro ago i h1 h2
    rw [updW_n (by omega)] at h1
    rw [updH_a (by omega), updH_a (by omega), updW_n (by omega), updW_n (by omega)]
    exact q14 ago i h1 h2
theorem Tw.ugr {h : Hc} {t : Nat} {w : Nat → Int} {v : Int} (q : Tw h t w) {k : Nat} (hk0 : k < 8) : Tw (updH h (t + 6) k v) t (updW w (101 + 7 * k) v) := by
  obtain ⟨⟨q0, q1, q2, q3, q4, q5⟩, q6, q7, q8, q9, q10, q11, q12, q13, q14⟩ := q
  refine ⟨⟨(by rw [updH_a (by omega), updW_n (by omega)]; exact q0), (by rw [updH_a (by omega), updW_n (by omega)]; exact q1), (by rw [updH_a (by omega), updW_n (by omega)]; exact q2), (by rw [updH_a (by omega), updW_n (by omega)]; exact q3), (by rw [updH_a (by omega), updW_n (by omega)]; exact q4), (by rw [updH_a (by omega), updW_n (by omega)]; exact q5)⟩, fun j hj => ⟨(by rw [updH_a (by omega), updW_n (by omega)]; exact (q6 j hj).1), (by rw [updH_a (by omega), updW_n (by omega)]; exact (q6 j hj).2.1), (by rw [updH_a (by omega), updW_n (by omega)]; exact (q6 j hj).2.2.1), (by rw [updH_a (by omega), updW_n (by omega)]; exact (q6 j hj).2.2.2)⟩,
    fun c hc => ⟨(by rw [updH_a (by omega), updW_n (by omega)]; exact (q7 c hc).1), (by
    by_cases e : c = k
    · subst e; rw [updH_s, updW_s]
    · rw [updH_i e, updW_n (by omega)]; exact (q7 c hc).2.1), (by rw [updH_a (by omega), updW_n (by omega)]; exact (q7 c hc).2.2.1), (by rw [updH_a (by omega), updW_n (by omega)]; exact (q7 c hc).2.2.2)⟩,
    fun c hc => ?_, fun c hc hc2 => ?_, fun p hp => (by rw [updH_a (by omega), updW_n (by omega)]; exact q10 p hp), fun k9 hk => (by rw [updH_a (by omega), updW_n (by omega)]; exact q11 k9 hk), (by rw [updH_a (by omega), updW_n (by omega)]; exact q12), ?_, ?_⟩
  · rw [updW_n (by omega)] at hc
    exact ⟨(by rw [updH_a (by omega), updW_n (by omega)]; exact (q8 c hc).1), (by rw [updH_a (by omega), updW_n (by omega)]; exact (q8 c hc).2.1), (by rw [updH_a (by omega), updW_n (by omega)]; exact (q8 c hc).2.2)⟩
  · rw [updW_n (by omega)] at hc2
    exact ⟨(by rw [updH_a (by omega)]; exact (q9 c hc hc2).1), (by rw [updH_a (by omega)]; exact (q9 c hc hc2).2)⟩
  · rw [updH_a (by omega)]; exact q13
  · intro ago i h1 h2
    rw [updW_n (by omega)] at h1
    rw [updH_a (by omega), updH_a (by omega), updW_n (by omega), updW_n (by omega)]
    exact q14 ago i h1 h2
theorem Tw.ust {h : Hc} {t : Nat} {w : Nat → Int} {v : Int} (q : Tw h t w) {k : Nat} (hk0 : k < 8) : Tw (updH h (t + 9) k v) t (updW w (104 + 7 * k) v) := by
  obtain ⟨⟨q0, q1, q2, q3, q4, q5⟩, q6, q7, q8, q9, q10, q11, q12, q13, q14⟩ := q
  refine ⟨⟨(by rw [updH_a (by omega), updW_n (by omega)]; exact q0), (by rw [updH_a (by omega), updW_n (by omega)]; exact q1), (by rw [updH_a (by omega), updW_n (by omega)]; exact q2), (by rw [updH_a (by omega), updW_n (by omega)]; exact q3), (by rw [updH_a (by omega), updW_n (by omega)]; exact q4), (by rw [updH_a (by omega), updW_n (by omega)]; exact q5)⟩, fun j hj => ⟨(by rw [updH_a (by omega), updW_n (by omega)]; exact (q6 j hj).1), (by rw [updH_a (by omega), updW_n (by omega)]; exact (q6 j hj).2.1), (by rw [updH_a (by omega), updW_n (by omega)]; exact (q6 j hj).2.2.1), (by rw [updH_a (by omega), updW_n (by omega)]; exact (q6 j hj).2.2.2)⟩,
    fun c hc => ⟨(by rw [updH_a (by omega), updW_n (by omega)]; exact (q7 c hc).1), (by rw [updH_a (by omega), updW_n (by omega)]; exact (q7 c hc).2.1), (by rw [updH_a (by omega), updW_n (by omega)]; exact (q7 c hc).2.2.1), (by
    by_cases e : c = k
    · subst e; rw [updH_s, updW_s]
    · rw [updH_i e, updW_n (by omega)]; exact (q7 c hc).2.2.2)⟩,
    fun c hc => ?_, fun c hc hc2 => ?_, fun p hp => (by rw [updH_a (by omega), updW_n (by omega)]; exact q10 p hp), fun k9 hk => (by rw [updH_a (by omega), updW_n (by omega)]; exact q11 k9 hk), (by rw [updH_a (by omega), updW_n (by omega)]; exact q12), ?_, ?_⟩
  · rw [updW_n (by omega)] at hc
    exact ⟨(by rw [updH_a (by omega), updW_n (by omega)]; exact (q8 c hc).1), (by rw [updH_a (by omega), updW_n (by omega)]; exact (q8 c hc).2.1), (by rw [updH_a (by omega), updW_n (by omega)]; exact (q8 c hc).2.2)⟩
  · rw [updW_n (by omega)] at hc2
    exact ⟨(by rw [updH_a (by omega)]; exact (q9 c hc hc2).1), (by rw [updH_a (by omega)]; exact (q9 c hc hc2).2)⟩
  · rw [updH_a (by omega)]; exact q13
  · intro ago i h1 h2
    rw [updW_n (by omega)] at h1
    rw [updH_a (by omega), updH_a (by omega), updW_n (by omega), updW_n (by omega)]
    exact q14 ago i h1 h2
theorem Tw.uby {h : Hc} {t : Nat} {w : Nat → Int} {v : Int} (q : Tw h t w) {k : Nat} (hk0 : (k : Int) < w 1) (hk8 : k < 8) : Tw (updH h (t + 10) k v) t (updW w (105 + 7 * k) v) := by
  obtain ⟨⟨q0, q1, q2, q3, q4, q5⟩, q6, q7, q8, q9, q10, q11, q12, q13, q14⟩ := q
  refine ⟨⟨(by rw [updH_a (by omega), updW_n (by omega)]; exact q0), (by rw [updH_a (by omega), updW_n (by omega)]; exact q1), (by rw [updH_a (by omega), updW_n (by omega)]; exact q2), (by rw [updH_a (by omega), updW_n (by omega)]; exact q3), (by rw [updH_a (by omega), updW_n (by omega)]; exact q4), (by rw [updH_a (by omega), updW_n (by omega)]; exact q5)⟩, fun j hj => ⟨(by rw [updH_a (by omega), updW_n (by omega)]; exact (q6 j hj).1), (by rw [updH_a (by omega), updW_n (by omega)]; exact (q6 j hj).2.1), (by rw [updH_a (by omega), updW_n (by omega)]; exact (q6 j hj).2.2.1), (by rw [updH_a (by omega), updW_n (by omega)]; exact (q6 j hj).2.2.2)⟩,
    fun c hc => ⟨(by rw [updH_a (by omega), updW_n (by omega)]; exact (q7 c hc).1), (by rw [updH_a (by omega), updW_n (by omega)]; exact (q7 c hc).2.1), (by rw [updH_a (by omega), updW_n (by omega)]; exact (q7 c hc).2.2.1), (by rw [updH_a (by omega), updW_n (by omega)]; exact (q7 c hc).2.2.2)⟩,
    fun c hc => ?_, fun c hc hc2 => ?_, fun p hp => (by rw [updH_a (by omega), updW_n (by omega)]; exact q10 p hp), fun k9 hk => (by rw [updH_a (by omega), updW_n (by omega)]; exact q11 k9 hk), (by rw [updH_a (by omega), updW_n (by omega)]; exact q12), ?_, ?_⟩
  · rw [updW_n (by omega)] at hc
    exact ⟨(by rw [updH_a (by omega), updW_n (by omega)]; exact (q8 c hc).1), (by
      by_cases e : c = k
      · subst e; rw [updH_s, updW_s]
      · rw [updH_i e, updW_n (by omega)]; exact (q8 c hc).2.1), (by rw [updH_a (by omega), updW_n (by omega)]; exact (q8 c hc).2.2)⟩
  · rw [updW_n (by omega)] at hc2
    exact ⟨(by rw [updH_i (by omega)]; exact (q9 c hc hc2).1), (by rw [updH_a (by omega)]; exact (q9 c hc hc2).2)⟩
  · rw [updH_a (by omega)]; exact q13
  · intro ago i h1 h2
    rw [updW_n (by omega)] at h1
    rw [updH_a (by omega), updH_a (by omega), updW_n (by omega), updW_n (by omega)]
    exact q14 ago i h1 h2
theorem Tw.udy {h : Hc} {t : Nat} {w : Nat → Int} {v : Int} (q : Tw h t w) {k : Nat} (hk0 : (k : Int) < w 1) (hk8 : k < 8) : Tw (updH h (t + 11) k v) t (updW w (106 + 7 * k) v) := by
  obtain ⟨⟨q0, q1, q2, q3, q4, q5⟩, q6, q7, q8, q9, q10, q11, q12, q13, q14⟩ := q
  refine ⟨⟨(by rw [updH_a (by omega), updW_n (by omega)]; exact q0), (by rw [updH_a (by omega), updW_n (by omega)]; exact q1), (by rw [updH_a (by omega), updW_n (by omega)]; exact q2), (by rw [updH_a (by omega), updW_n (by omega)]; exact q3), (by rw [updH_a (by omega), updW_n (by omega)]; exact q4), (by rw [updH_a (by omega), updW_n (by omega)]; exact q5)⟩, fun j hj => ⟨(by rw [updH_a (by omega), updW_n (by omega)]; exact (q6 j hj).1), (by rw [updH_a (by omega), updW_n (by omega)]; exact (q6 j hj).2.1), (by rw [updH_a (by omega), updW_n (by omega)]; exact (q6 j hj).2.2.1), (by rw [updH_a (by omega), updW_n (by omega)]; exact (q6 j hj).2.2.2)⟩,
    fun c hc => ⟨(by rw [updH_a (by omega), updW_n (by omega)]; exact (q7 c hc).1), (by rw [updH_a (by omega), updW_n (by omega)]; exact (q7 c hc).2.1), (by rw [updH_a (by omega), updW_n (by omega)]; exact (q7 c hc).2.2.1), (by rw [updH_a (by omega), updW_n (by omega)]; exact (q7 c hc).2.2.2)⟩,
    fun c hc => ?_, fun c hc hc2 => ?_, fun p hp => (by rw [updH_a (by omega), updW_n (by omega)]; exact q10 p hp), fun k9 hk => (by rw [updH_a (by omega), updW_n (by omega)]; exact q11 k9 hk), (by rw [updH_a (by omega), updW_n (by omega)]; exact q12), ?_, ?_⟩
  · rw [updW_n (by omega)] at hc
    exact ⟨(by rw [updH_a (by omega), updW_n (by omega)]; exact (q8 c hc).1), (by rw [updH_a (by omega), updW_n (by omega)]; exact (q8 c hc).2.1), (by
      by_cases e : c = k
      · subst e; rw [updH_s, updW_s]
      · rw [updH_i e, updW_n (by omega)]; exact (q8 c hc).2.2)⟩
  · rw [updW_n (by omega)] at hc2
    exact ⟨(by rw [updH_a (by omega)]; exact (q9 c hc hc2).1), (by rw [updH_i (by omega)]; exact (q9 c hc hc2).2)⟩
  · rw [updH_a (by omega)]; exact q13
  · intro ago i h1 h2
    rw [updW_n (by omega)] at h1
    rw [updH_a (by omega), updH_a (by omega), updW_n (by omega), updW_n (by omega)]
    exact q14 ago i h1 h2
theorem Tw.upl {h : Hc} {t : Nat} {w : Nat → Int} {v : Int} (q : Tw h t w) {k : Nat} (hk0 : k < 60) : Tw (updH h (t + 12) k v) t (updW w (20 + k) v) := by
  obtain ⟨⟨q0, q1, q2, q3, q4, q5⟩, q6, q7, q8, q9, q10, q11, q12, q13, q14⟩ := q
  refine ⟨⟨(by rw [updH_a (by omega), updW_n (by omega)]; exact q0), (by rw [updH_a (by omega), updW_n (by omega)]; exact q1), (by rw [updH_a (by omega), updW_n (by omega)]; exact q2), (by rw [updH_a (by omega), updW_n (by omega)]; exact q3), (by rw [updH_a (by omega), updW_n (by omega)]; exact q4), (by rw [updH_a (by omega), updW_n (by omega)]; exact q5)⟩, fun j hj => ⟨(by rw [updH_a (by omega), updW_n (by omega)]; exact (q6 j hj).1), (by rw [updH_a (by omega), updW_n (by omega)]; exact (q6 j hj).2.1), (by rw [updH_a (by omega), updW_n (by omega)]; exact (q6 j hj).2.2.1), (by rw [updH_a (by omega), updW_n (by omega)]; exact (q6 j hj).2.2.2)⟩,
    fun c hc => ⟨(by rw [updH_a (by omega), updW_n (by omega)]; exact (q7 c hc).1), (by rw [updH_a (by omega), updW_n (by omega)]; exact (q7 c hc).2.1), (by rw [updH_a (by omega), updW_n (by omega)]; exact (q7 c hc).2.2.1), (by rw [updH_a (by omega), updW_n (by omega)]; exact (q7 c hc).2.2.2)⟩,
    fun c hc => ?_, fun c hc hc2 => ?_, fun p hp => (by
    by_cases e : p = k
    · subst e; rw [updH_s, updW_s]
    · rw [updH_i e, updW_n (by omega)]; exact q10 p hp), fun k9 hk => (by rw [updH_a (by omega), updW_n (by omega)]; exact q11 k9 hk), (by rw [updH_a (by omega), updW_n (by omega)]; exact q12), ?_, ?_⟩
  · rw [updW_n (by omega)] at hc
    exact ⟨(by rw [updH_a (by omega), updW_n (by omega)]; exact (q8 c hc).1), (by rw [updH_a (by omega), updW_n (by omega)]; exact (q8 c hc).2.1), (by rw [updH_a (by omega), updW_n (by omega)]; exact (q8 c hc).2.2)⟩
  · rw [updW_n (by omega)] at hc2
    exact ⟨(by rw [updH_a (by omega)]; exact (q9 c hc hc2).1), (by rw [updH_a (by omega)]; exact (q9 c hc hc2).2)⟩
  · rw [updH_a (by omega)]; exact q13
  · intro ago i h1 h2
    rw [updW_n (by omega)] at h1
    rw [updH_a (by omega), updH_a (by omega), updW_n (by omega), updW_n (by omega)]
    exact q14 ago i h1 h2
theorem Tw.uin {h : Hc} {t : Nat} {w : Nat → Int} {v : Int} (q : Tw h t w) {k : Nat} (hk0 : k < 12) : Tw (updH h (t + 13) k v) t (updW w (8 + k) v) := by
  obtain ⟨⟨q0, q1, q2, q3, q4, q5⟩, q6, q7, q8, q9, q10, q11, q12, q13, q14⟩ := q
  refine ⟨⟨(by rw [updH_a (by omega), updW_n (by omega)]; exact q0), (by rw [updH_a (by omega), updW_n (by omega)]; exact q1), (by rw [updH_a (by omega), updW_n (by omega)]; exact q2), (by rw [updH_a (by omega), updW_n (by omega)]; exact q3), (by rw [updH_a (by omega), updW_n (by omega)]; exact q4), (by rw [updH_a (by omega), updW_n (by omega)]; exact q5)⟩, fun j hj => ⟨(by rw [updH_a (by omega), updW_n (by omega)]; exact (q6 j hj).1), (by rw [updH_a (by omega), updW_n (by omega)]; exact (q6 j hj).2.1), (by rw [updH_a (by omega), updW_n (by omega)]; exact (q6 j hj).2.2.1), (by rw [updH_a (by omega), updW_n (by omega)]; exact (q6 j hj).2.2.2)⟩,
    fun c hc => ⟨(by rw [updH_a (by omega), updW_n (by omega)]; exact (q7 c hc).1), (by rw [updH_a (by omega), updW_n (by omega)]; exact (q7 c hc).2.1), (by rw [updH_a (by omega), updW_n (by omega)]; exact (q7 c hc).2.2.1), (by rw [updH_a (by omega), updW_n (by omega)]; exact (q7 c hc).2.2.2)⟩,
    fun c hc => ?_, fun c hc hc2 => ?_, fun p hp => (by rw [updH_a (by omega), updW_n (by omega)]; exact q10 p hp), fun k9 hk => (by
    by_cases e : k9 = k
    · subst e; rw [updH_s, updW_s]
    · rw [updH_i e, updW_n (by omega)]; exact q11 k9 hk), (by rw [updH_a (by omega), updW_n (by omega)]; exact q12), ?_, ?_⟩
  · rw [updW_n (by omega)] at hc
    exact ⟨(by rw [updH_a (by omega), updW_n (by omega)]; exact (q8 c hc).1), (by rw [updH_a (by omega), updW_n (by omega)]; exact (q8 c hc).2.1), (by rw [updH_a (by omega), updW_n (by omega)]; exact (q8 c hc).2.2)⟩
  · rw [updW_n (by omega)] at hc2
    exact ⟨(by rw [updH_a (by omega)]; exact (q9 c hc hc2).1), (by rw [updH_a (by omega)]; exact (q9 c hc hc2).2)⟩
  · rw [updH_a (by omega)]; exact q13
  · intro ago i h1 h2
    rw [updW_n (by omega)] at h1
    rw [updH_a (by omega), updH_a (by omega), updW_n (by omega), updW_n (by omega)]
    exact q14 ago i h1 h2
theorem Tw.utx {h : Hc} {t : Nat} {w : Nat → Int} {v : Int} (q : Tw h t w) : Tw (updH h t 2 v) t (updW w (2) v) := by
  obtain ⟨⟨q0, q1, q2, q3, q4, q5⟩, q6, q7, q8, q9, q10, q11, q12, q13, q14⟩ := q
  refine ⟨⟨(by rw [updH_i (by omega), updW_n (by omega)]; exact q0), (by rw [updH_i (by omega), updW_n (by omega)]; exact q1), (by rw [updH_s, updW_s]), (by rw [updH_i (by omega), updW_n (by omega)]; exact q3), (by rw [updH_i (by omega), updW_n (by omega)]; exact q4), (by rw [updH_i (by omega), updW_n (by omega)]; exact q5)⟩, fun j hj => ⟨(by rw [updH_a (by omega), updW_n (by omega)]; exact (q6 j hj).1), (by rw [updH_a (by omega), updW_n (by omega)]; exact (q6 j hj).2.1), (by rw [updH_a (by omega), updW_n (by omega)]; exact (q6 j hj).2.2.1), (by rw [updH_a (by omega), updW_n (by omega)]; exact (q6 j hj).2.2.2)⟩,
    fun c hc => ⟨(by rw [updH_a (by omega), updW_n (by omega)]; exact (q7 c hc).1), (by rw [updH_a (by omega), updW_n (by omega)]; exact (q7 c hc).2.1), (by rw [updH_a (by omega), updW_n (by omega)]; exact (q7 c hc).2.2.1), (by rw [updH_a (by omega), updW_n (by omega)]; exact (q7 c hc).2.2.2)⟩,
    fun c hc => ?_, fun c hc hc2 => ?_, fun p hp => (by rw [updH_a (by omega), updW_n (by omega)]; exact q10 p hp), fun k hk => (by rw [updH_a (by omega), updW_n (by omega)]; exact q11 k hk), (by rw [updH_a (by omega), updW_n (by omega)]; exact q12), ?_, ?_⟩
  · rw [updW_n (by omega)] at hc
    exact ⟨(by rw [updH_a (by omega), updW_n (by omega)]; exact (q8 c hc).1), (by rw [updH_a (by omega), updW_n (by omega)]; exact (q8 c hc).2.1), (by rw [updH_a (by omega), updW_n (by omega)]; exact (q8 c hc).2.2)⟩
  · rw [updW_n (by omega)] at hc2
    exact ⟨(by rw [updH_a (by omega)]; exact (q9 c hc hc2).1), (by rw [updH_a (by omega)]; exact (q9 c hc hc2).2)⟩
  · rw [updH_a (by omega)]; exact q13
  · intro ago i h1 h2
    rw [updW_n (by omega)] at h1
    rw [updH_a (by omega), updH_a (by omega), updW_n (by omega), updW_n (by omega)]
    exact q14 ago i h1 h2
theorem Tw.uho {h : Hc} {t : Nat} {w : Nat → Int} {v : Int} (q : Tw h t w) : Tw (updH h t 3 v) t (updW w (4) v) := by
  obtain ⟨⟨q0, q1, q2, q3, q4, q5⟩, q6, q7, q8, q9, q10, q11, q12, q13, q14⟩ := q
  refine ⟨⟨(by rw [updH_i (by omega), updW_n (by omega)]; exact q0), (by rw [updH_i (by omega), updW_n (by omega)]; exact q1), (by rw [updH_i (by omega), updW_n (by omega)]; exact q2), (by rw [updH_s, updW_s]), (by rw [updH_i (by omega), updW_n (by omega)]; exact q4), (by rw [updH_i (by omega), updW_n (by omega)]; exact q5)⟩, fun j hj => ⟨(by rw [updH_a (by omega), updW_n (by omega)]; exact (q6 j hj).1), (by rw [updH_a (by omega), updW_n (by omega)]; exact (q6 j hj).2.1), (by rw [updH_a (by omega), updW_n (by omega)]; exact (q6 j hj).2.2.1), (by rw [updH_a (by omega), updW_n (by omega)]; exact (q6 j hj).2.2.2)⟩,
    fun c hc => ⟨(by rw [updH_a (by omega), updW_n (by omega)]; exact (q7 c hc).1), (by rw [updH_a (by omega), updW_n (by omega)]; exact (q7 c hc).2.1), (by rw [updH_a (by omega), updW_n (by omega)]; exact (q7 c hc).2.2.1), (by rw [updH_a (by omega), updW_n (by omega)]; exact (q7 c hc).2.2.2)⟩,
    fun c hc => ?_, fun c hc hc2 => ?_, fun p hp => (by rw [updH_a (by omega), updW_n (by omega)]; exact q10 p hp), fun k hk => (by rw [updH_a (by omega), updW_n (by omega)]; exact q11 k hk), (by rw [updH_a (by omega), updW_n (by omega)]; exact q12), ?_, ?_⟩
  · rw [updW_n (by omega)] at hc
    exact ⟨(by rw [updH_a (by omega), updW_n (by omega)]; exact (q8 c hc).1), (by rw [updH_a (by omega), updW_n (by omega)]; exact (q8 c hc).2.1), (by rw [updH_a (by omega), updW_n (by omega)]; exact (q8 c hc).2.2)⟩
  · rw [updW_n (by omega)] at hc2
    exact ⟨(by rw [updH_a (by omega)]; exact (q9 c hc hc2).1), (by rw [updH_a (by omega)]; exact (q9 c hc hc2).2)⟩
  · rw [updH_a (by omega)]; exact q13
  · intro ago i h1 h2
    rw [updW_n (by omega)] at h1
    rw [updH_a (by omega), updH_a (by omega), updW_n (by omega), updW_n (by omega)]
    exact q14 ago i h1 h2
theorem Tw.uda {h : Hc} {t : Nat} {w : Nat → Int} {v : Int} (q : Tw h t w) : Tw (updH h t 4 v) t (updW w (5) v) := by
  obtain ⟨⟨q0, q1, q2, q3, q4, q5⟩, q6, q7, q8, q9, q10, q11, q12, q13, q14⟩ := q
  refine ⟨⟨(by rw [updH_i (by omega), updW_n (by omega)]; exact q0), (by rw [updH_i (by omega), updW_n (by omega)]; exact q1), (by rw [updH_i (by omega), updW_n (by omega)]; exact q2), (by rw [updH_i (by omega), updW_n (by omega)]; exact q3), (by rw [updH_s, updW_s]), (by rw [updH_i (by omega), updW_n (by omega)]; exact q5)⟩, fun j hj => ⟨(by rw [updH_a (by omega), updW_n (by omega)]; exact (q6 j hj).1), (by rw [updH_a (by omega), updW_n (by omega)]; exact (q6 j hj).2.1), (by rw [updH_a (by omega), updW_n (by omega)]; exact (q6 j hj).2.2.1), (by rw [updH_a (by omega), updW_n (by omega)]; exact (q6 j hj).2.2.2)⟩,
    fun c hc => ⟨(by rw [updH_a (by omega), updW_n (by omega)]; exact (q7 c hc).1), (by rw [updH_a (by omega), updW_n (by omega)]; exact (q7 c hc).2.1), (by rw [updH_a (by omega), updW_n (by omega)]; exact (q7 c hc).2.2.1), (by rw [updH_a (by omega), updW_n (by omega)]; exact (q7 c hc).2.2.2)⟩,
    fun c hc => ?_, fun c hc hc2 => ?_, fun p hp => (by rw [updH_a (by omega), updW_n (by omega)]; exact q10 p hp), fun k hk => (by rw [updH_a (by omega), updW_n (by omega)]; exact q11 k hk), (by rw [updH_a (by omega), updW_n (by omega)]; exact q12), ?_, ?_⟩
  · rw [updW_n (by omega)] at hc
    exact ⟨(by rw [updH_a (by omega), updW_n (by omega)]; exact (q8 c hc).1), (by rw [updH_a (by omega), updW_n (by omega)]; exact (q8 c hc).2.1), (by rw [updH_a (by omega), updW_n (by omega)]; exact (q8 c hc).2.2)⟩
  · rw [updW_n (by omega)] at hc2
    exact ⟨(by rw [updH_a (by omega)]; exact (q9 c hc hc2).1), (by rw [updH_a (by omega)]; exact (q9 c hc hc2).2)⟩
  · rw [updH_a (by omega)]; exact q13
  · intro ago i h1 h2
    rw [updW_n (by omega)] at h1
    rw [updH_a (by omega), updH_a (by omega), updW_n (by omega), updW_n (by omega)]
    exact q14 ago i h1 h2
theorem Tw.use {h : Hc} {t : Nat} {w : Nat → Int} {v : Int} (q : Tw h t w) : Tw (updH h t 5 v) t (updW w (7) v) := by
  obtain ⟨⟨q0, q1, q2, q3, q4, q5⟩, q6, q7, q8, q9, q10, q11, q12, q13, q14⟩ := q
  refine ⟨⟨(by rw [updH_i (by omega), updW_n (by omega)]; exact q0), (by rw [updH_i (by omega), updW_n (by omega)]; exact q1), (by rw [updH_i (by omega), updW_n (by omega)]; exact q2), (by rw [updH_i (by omega), updW_n (by omega)]; exact q3), (by rw [updH_i (by omega), updW_n (by omega)]; exact q4), (by rw [updH_s, updW_s])⟩, fun j hj => ⟨(by rw [updH_a (by omega), updW_n (by omega)]; exact (q6 j hj).1), (by rw [updH_a (by omega), updW_n (by omega)]; exact (q6 j hj).2.1), (by rw [updH_a (by omega), updW_n (by omega)]; exact (q6 j hj).2.2.1), (by rw [updH_a (by omega), updW_n (by omega)]; exact (q6 j hj).2.2.2)⟩,
    fun c hc => ⟨(by rw [updH_a (by omega), updW_n (by omega)]; exact (q7 c hc).1), (by rw [updH_a (by omega), updW_n (by omega)]; exact (q7 c hc).2.1), (by rw [updH_a (by omega), updW_n (by omega)]; exact (q7 c hc).2.2.1), (by rw [updH_a (by omega), updW_n (by omega)]; exact (q7 c hc).2.2.2)⟩,
    fun c hc => ?_, fun c hc hc2 => ?_, fun p hp => (by rw [updH_a (by omega), updW_n (by omega)]; exact q10 p hp), fun k hk => (by rw [updH_a (by omega), updW_n (by omega)]; exact q11 k hk), (by rw [updH_a (by omega), updW_n (by omega)]; exact q12), ?_, ?_⟩
  · rw [updW_n (by omega)] at hc
    exact ⟨(by rw [updH_a (by omega), updW_n (by omega)]; exact (q8 c hc).1), (by rw [updH_a (by omega), updW_n (by omega)]; exact (q8 c hc).2.1), (by rw [updH_a (by omega), updW_n (by omega)]; exact (q8 c hc).2.2)⟩
  · rw [updW_n (by omega)] at hc2
    exact ⟨(by rw [updH_a (by omega)]; exact (q9 c hc hc2).1), (by rw [updH_a (by omega)]; exact (q9 c hc hc2).2)⟩
  · rw [updH_a (by omega)]; exact q13
  · intro ago i h1 h2
    rw [updW_n (by omega)] at h1
    rw [updH_a (by omega), updH_a (by omega), updW_n (by omega), updW_n (by omega)]
    exact q14 ago i h1 h2
theorem WF.uhu {w : Nat → Int} {v : Int} (f : WF w) {k : Nat} (hk0 : k < 5) (hv : 0 ≤ v ∧ v ≤ 99) : WF (updW w (80 + 4 * k) v) := by
  refine ⟨?_, ?_, ?_, ?_, ?_, ?_, ?_, ?_, ?_, ?_, ?_, ?_, ?_, ?_, ?_, ?_, ?_⟩
  · exact by rw [updW_n (by omega)]; exact f.jud
  · exact by rw [updW_n (by omega)]; exact f.cas
  · exact by rw [updW_n (by omega)]; exact f.tex
  · exact by rw [updW_n (by omega)]; exact f.law
  · exact by rw [updW_n (by omega)]; exact f.hou
  · exact by rw [updW_n (by omega)]; exact f.day
  · exact by rw [updW_n (by omega)]; exact f.log
  · exact by rw [updW_n (by omega)]; exact f.see
  · exact fun k hk => by rw [updW_n (by omega)]; exact f.inn k hk
  · exact fun p hp => by rw [updW_n (show 20 + p ≠ _ by omega), updW_n (show 1 ≠ _ by omega)]; exact f.pla p hp
  · exact fun p q hp hq h1 h2 => by rw [updW_n (show 20 + p ≠ _ by omega)] at h1 h2; rw [updW_n (show 20 + q ≠ _ by omega)] at h1; exact f.one p q hp hq h1 h2
  · exact fun p hp h1 => by rw [updW_n (show 0 ≠ _ by omega)] at h1; rw [updW_n (show 20 + p ≠ _ by omega)]; exact f.out p hp h1
  · exact fun j hj => by
      by_cases e : j = k
      · subst e; rw [updW_s, updW_n (show 81 + 4 * j ≠ _ by omega), updW_n (show 82 + 4 * j ≠ _ by omega), updW_n (show 83 + 4 * j ≠ _ by omega)]; have := f.jof j hj; exact ⟨hv, this.2.1, this.2.2.1, this.2.2.2⟩
      · rw [updW_n (by omega), updW_n (by omega), updW_n (by omega), updW_n (by omega)]; exact f.jof j hj
  · exact fun c hc => by rw [updW_n (by omega), updW_n (by omega), updW_n (by omega), updW_n (by omega), updW_n (by omega), updW_n (by omega), updW_n (by omega)]; exact f.cof c hc
  · exact fun c h1 => by rw [updW_n (show 1 ≠ _ by omega)] at h1; have := f.cas; rw [updW_n (by omega)]; exact f.lea c h1
  · exact fun c hc h1 => by rw [updW_n (show 1 ≠ _ by omega)] at h1; rw [updW_n (by omega)]; exact f.wai c hc h1
  · exact fun r i hr hi => by rw [updW_n (by omega)]; exact f.row r i hr hi
theorem WF.ugr {w : Nat → Int} {v : Int} (f : WF w) {k : Nat} (hk0 : k < 8) (hv : 0 ≤ v ∧ v ≤ 99) : WF (updW w (101 + 7 * k) v) := by
  refine ⟨?_, ?_, ?_, ?_, ?_, ?_, ?_, ?_, ?_, ?_, ?_, ?_, ?_, ?_, ?_, ?_, ?_⟩
  · exact by rw [updW_n (by omega)]; exact f.jud
  · exact by rw [updW_n (by omega)]; exact f.cas
  · exact by rw [updW_n (by omega)]; exact f.tex
  · exact by rw [updW_n (by omega)]; exact f.law
  · exact by rw [updW_n (by omega)]; exact f.hou
  · exact by rw [updW_n (by omega)]; exact f.day
  · exact by rw [updW_n (by omega)]; exact f.log
  · exact by rw [updW_n (by omega)]; exact f.see
  · exact fun k hk => by rw [updW_n (by omega)]; exact f.inn k hk
  · exact fun p hp => by rw [updW_n (show 20 + p ≠ _ by omega), updW_n (show 1 ≠ _ by omega)]; exact f.pla p hp
  · exact fun p q hp hq h1 h2 => by rw [updW_n (show 20 + p ≠ _ by omega)] at h1 h2; rw [updW_n (show 20 + q ≠ _ by omega)] at h1; exact f.one p q hp hq h1 h2
  · exact fun p hp h1 => by rw [updW_n (show 0 ≠ _ by omega)] at h1; rw [updW_n (show 20 + p ≠ _ by omega)]; exact f.out p hp h1
  · exact fun j hj => by rw [updW_n (by omega), updW_n (by omega), updW_n (by omega), updW_n (by omega)]; exact f.jof j hj
  · exact fun c hc => by
      by_cases e : c = k
      · subst e; rw [updW_n (show 100 + 7 * c ≠ _ by omega), updW_s, updW_n (show 102 + 7 * c ≠ _ by omega), updW_n (show 103 + 7 * c ≠ _ by omega), updW_n (show 104 + 7 * c ≠ _ by omega), updW_n (show 105 + 7 * c ≠ _ by omega), updW_n (show 106 + 7 * c ≠ _ by omega)]; have := f.cof c hc; exact ⟨this.1, hv, this.2.2.1, this.2.2.2.1, this.2.2.2.2.1, this.2.2.2.2.2.1, this.2.2.2.2.2.2⟩
      · rw [updW_n (by omega), updW_n (by omega), updW_n (by omega), updW_n (by omega), updW_n (by omega), updW_n (by omega), updW_n (by omega)]; exact f.cof c hc
  · exact fun c h1 => by rw [updW_n (show 1 ≠ _ by omega)] at h1; have := f.cas; rw [updW_n (by omega)]; exact f.lea c h1
  · exact fun c hc h1 => by rw [updW_n (show 1 ≠ _ by omega)] at h1; rw [updW_n (by omega)]; exact f.wai c hc h1
  · exact fun r i hr hi => by rw [updW_n (by omega)]; exact f.row r i hr hi
theorem WF.ust {w : Nat → Int} {v : Int} (f : WF w) {k : Nat} (hk0 : (k : Int) < w 1) (hk8 : k < 8) (hv : 0 ≤ v ∧ v ≤ 3) : WF (updW w (104 + 7 * k) v) := by
  refine ⟨?_, ?_, ?_, ?_, ?_, ?_, ?_, ?_, ?_, ?_, ?_, ?_, ?_, ?_, ?_, ?_, ?_⟩
  · exact by rw [updW_n (by omega)]; exact f.jud
  · exact by rw [updW_n (by omega)]; exact f.cas
  · exact by rw [updW_n (by omega)]; exact f.tex
  · exact by rw [updW_n (by omega)]; exact f.law
  · exact by rw [updW_n (by omega)]; exact f.hou
  · exact by rw [updW_n (by omega)]; exact f.day
  · exact by rw [updW_n (by omega)]; exact f.log
  · exact by rw [updW_n (by omega)]; exact f.see
  · exact fun k hk => by rw [updW_n (by omega)]; exact f.inn k hk
  · exact fun p hp => by rw [updW_n (show 20 + p ≠ _ by omega), updW_n (show 1 ≠ _ by omega)]; exact f.pla p hp
  · exact fun p q hp hq h1 h2 => by rw [updW_n (show 20 + p ≠ _ by omega)] at h1 h2; rw [updW_n (show 20 + q ≠ _ by omega)] at h1; exact f.one p q hp hq h1 h2
  · exact fun p hp h1 => by rw [updW_n (show 0 ≠ _ by omega)] at h1; rw [updW_n (show 20 + p ≠ _ by omega)]; exact f.out p hp h1
  · exact fun j hj => by rw [updW_n (by omega), updW_n (by omega), updW_n (by omega), updW_n (by omega)]; exact f.jof j hj
  · exact fun c hc => by
      by_cases e : c = k
      · subst e; rw [updW_n (show 100 + 7 * c ≠ _ by omega), updW_n (show 101 + 7 * c ≠ _ by omega), updW_n (show 102 + 7 * c ≠ _ by omega), updW_n (show 103 + 7 * c ≠ _ by omega), updW_s, updW_n (show 105 + 7 * c ≠ _ by omega), updW_n (show 106 + 7 * c ≠ _ by omega)]; have := f.cof c hc; exact ⟨this.1, this.2.1, this.2.2.1, this.2.2.2.1, hv, this.2.2.2.2.2.1, this.2.2.2.2.2.2⟩
      · rw [updW_n (by omega), updW_n (by omega), updW_n (by omega), updW_n (by omega), updW_n (by omega), updW_n (by omega), updW_n (by omega)]; exact f.cof c hc
  · exact fun c h1 => by rw [updW_n (show 1 ≠ _ by omega)] at h1; have := f.cas; rw [updW_n (by omega)]; exact f.lea c h1
  · exact fun c hc h1 => by rw [updW_n (show 1 ≠ _ by omega)] at h1; rw [updW_n (by omega)]; exact f.wai c hc h1
  · exact fun r i hr hi => by rw [updW_n (by omega)]; exact f.row r i hr hi
theorem WF.uby {w : Nat → Int} {v : Int} (f : WF w) {k : Nat} (hk8 : k < 8) (hv : -1 ≤ v ∧ v ≤ 4) : WF (updW w (105 + 7 * k) v) := by
  refine ⟨?_, ?_, ?_, ?_, ?_, ?_, ?_, ?_, ?_, ?_, ?_, ?_, ?_, ?_, ?_, ?_, ?_⟩
  · exact by rw [updW_n (by omega)]; exact f.jud
  · exact by rw [updW_n (by omega)]; exact f.cas
  · exact by rw [updW_n (by omega)]; exact f.tex
  · exact by rw [updW_n (by omega)]; exact f.law
  · exact by rw [updW_n (by omega)]; exact f.hou
  · exact by rw [updW_n (by omega)]; exact f.day
  · exact by rw [updW_n (by omega)]; exact f.log
  · exact by rw [updW_n (by omega)]; exact f.see
  · exact fun k hk => by rw [updW_n (by omega)]; exact f.inn k hk
  · exact fun p hp => by rw [updW_n (show 20 + p ≠ _ by omega), updW_n (show 1 ≠ _ by omega)]; exact f.pla p hp
  · exact fun p q hp hq h1 h2 => by rw [updW_n (show 20 + p ≠ _ by omega)] at h1 h2; rw [updW_n (show 20 + q ≠ _ by omega)] at h1; exact f.one p q hp hq h1 h2
  · exact fun p hp h1 => by rw [updW_n (show 0 ≠ _ by omega)] at h1; rw [updW_n (show 20 + p ≠ _ by omega)]; exact f.out p hp h1
  · exact fun j hj => by rw [updW_n (by omega), updW_n (by omega), updW_n (by omega), updW_n (by omega)]; exact f.jof j hj
  · exact fun c hc => by
      by_cases e : c = k
      · subst e; rw [updW_n (show 100 + 7 * c ≠ _ by omega), updW_n (show 101 + 7 * c ≠ _ by omega), updW_n (show 102 + 7 * c ≠ _ by omega), updW_n (show 103 + 7 * c ≠ _ by omega), updW_n (show 104 + 7 * c ≠ _ by omega), updW_s, updW_n (show 106 + 7 * c ≠ _ by omega)]; have := f.cof c hc; exact ⟨this.1, this.2.1, this.2.2.1, this.2.2.2.1, this.2.2.2.2.1, hv, this.2.2.2.2.2.2⟩
      · rw [updW_n (by omega), updW_n (by omega), updW_n (by omega), updW_n (by omega), updW_n (by omega), updW_n (by omega), updW_n (by omega)]; exact f.cof c hc
  · exact fun c h1 => by rw [updW_n (show 1 ≠ _ by omega)] at h1; have := f.cas; rw [updW_n (by omega)]; exact f.lea c h1
  · exact fun c hc h1 => by rw [updW_n (show 1 ≠ _ by omega)] at h1; rw [updW_n (by omega)]; exact f.wai c hc h1
  · exact fun r i hr hi => by rw [updW_n (by omega)]; exact f.row r i hr hi
theorem WF.udy {w : Nat → Int} {v : Int} (f : WF w) {k : Nat} (hk8 : k < 8) (hv : -1 ≤ v ∧ v ≤ 9999) : WF (updW w (106 + 7 * k) v) := by
  refine ⟨?_, ?_, ?_, ?_, ?_, ?_, ?_, ?_, ?_, ?_, ?_, ?_, ?_, ?_, ?_, ?_, ?_⟩
  · exact by rw [updW_n (by omega)]; exact f.jud
  · exact by rw [updW_n (by omega)]; exact f.cas
  · exact by rw [updW_n (by omega)]; exact f.tex
  · exact by rw [updW_n (by omega)]; exact f.law
  · exact by rw [updW_n (by omega)]; exact f.hou
  · exact by rw [updW_n (by omega)]; exact f.day
  · exact by rw [updW_n (by omega)]; exact f.log
  · exact by rw [updW_n (by omega)]; exact f.see
  · exact fun k hk => by rw [updW_n (by omega)]; exact f.inn k hk
  · exact fun p hp => by rw [updW_n (show 20 + p ≠ _ by omega), updW_n (show 1 ≠ _ by omega)]; exact f.pla p hp
  · exact fun p q hp hq h1 h2 => by rw [updW_n (show 20 + p ≠ _ by omega)] at h1 h2; rw [updW_n (show 20 + q ≠ _ by omega)] at h1; exact f.one p q hp hq h1 h2
  · exact fun p hp h1 => by rw [updW_n (show 0 ≠ _ by omega)] at h1; rw [updW_n (show 20 + p ≠ _ by omega)]; exact f.out p hp h1
  · exact fun j hj => by rw [updW_n (by omega), updW_n (by omega), updW_n (by omega), updW_n (by omega)]; exact f.jof j hj
  · exact fun c hc => by
      by_cases e : c = k
      · subst e; rw [updW_n (show 100 + 7 * c ≠ _ by omega), updW_n (show 101 + 7 * c ≠ _ by omega), updW_n (show 102 + 7 * c ≠ _ by omega), updW_n (show 103 + 7 * c ≠ _ by omega), updW_n (show 104 + 7 * c ≠ _ by omega), updW_n (show 105 + 7 * c ≠ _ by omega), updW_s]; have := f.cof c hc; exact ⟨this.1, this.2.1, this.2.2.1, this.2.2.2.1, this.2.2.2.2.1, this.2.2.2.2.2.1, hv⟩
      · rw [updW_n (by omega), updW_n (by omega), updW_n (by omega), updW_n (by omega), updW_n (by omega), updW_n (by omega), updW_n (by omega)]; exact f.cof c hc
  · exact fun c h1 => by rw [updW_n (show 1 ≠ _ by omega)] at h1; have := f.cas; rw [updW_n (by omega)]; exact f.lea c h1
  · exact fun c hc h1 => by rw [updW_n (show 1 ≠ _ by omega)] at h1; rw [updW_n (by omega)]; exact f.wai c hc h1
  · exact fun r i hr hi => by rw [updW_n (by omega)]; exact f.row r i hr hi
theorem WF.uin {w : Nat → Int} {v : Int} (f : WF w) {k : Nat} (hk0 : k < 12) (hv : 0 ≤ v ∧ v ≤ 100) : WF (updW w (8 + k) v) := by
  refine ⟨?_, ?_, ?_, ?_, ?_, ?_, ?_, ?_, ?_, ?_, ?_, ?_, ?_, ?_, ?_, ?_, ?_⟩
  · exact by rw [updW_n (by omega)]; exact f.jud
  · exact by rw [updW_n (by omega)]; exact f.cas
  · exact by rw [updW_n (by omega)]; exact f.tex
  · exact by rw [updW_n (by omega)]; exact f.law
  · exact by rw [updW_n (by omega)]; exact f.hou
  · exact by rw [updW_n (by omega)]; exact f.day
  · exact by rw [updW_n (by omega)]; exact f.log
  · exact by rw [updW_n (by omega)]; exact f.see
  · exact fun j hj => by
      by_cases e : j = k
      · subst e; rw [updW_s]; exact hv
      · rw [updW_n (by omega)]; exact f.inn j hj
  · exact fun p hp => by rw [updW_n (show 20 + p ≠ _ by omega), updW_n (show 1 ≠ _ by omega)]; exact f.pla p hp
  · exact fun p q hp hq h1 h2 => by rw [updW_n (show 20 + p ≠ _ by omega)] at h1 h2; rw [updW_n (show 20 + q ≠ _ by omega)] at h1; exact f.one p q hp hq h1 h2
  · exact fun p hp h1 => by rw [updW_n (show 0 ≠ _ by omega)] at h1; rw [updW_n (show 20 + p ≠ _ by omega)]; exact f.out p hp h1
  · exact fun j hj => by rw [updW_n (by omega), updW_n (by omega), updW_n (by omega), updW_n (by omega)]; exact f.jof j hj
  · exact fun c hc => by rw [updW_n (by omega), updW_n (by omega), updW_n (by omega), updW_n (by omega), updW_n (by omega), updW_n (by omega), updW_n (by omega)]; exact f.cof c hc
  · exact fun c h1 => by rw [updW_n (show 1 ≠ _ by omega)] at h1; have := f.cas; rw [updW_n (by omega)]; exact f.lea c h1
  · exact fun c hc h1 => by rw [updW_n (show 1 ≠ _ by omega)] at h1; rw [updW_n (by omega)]; exact f.wai c hc h1
  · exact fun r i hr hi => by rw [updW_n (by omega)]; exact f.row r i hr hi
theorem WF.utx {w : Nat → Int} {v : Int} (f : WF w) (hv : 0 ≤ v ∧ v ≤ 12) : WF (updW w (2) v) := by
  refine ⟨?_, ?_, ?_, ?_, ?_, ?_, ?_, ?_, ?_, ?_, ?_, ?_, ?_, ?_, ?_, ?_, ?_⟩
  · exact by rw [updW_n (by omega)]; exact f.jud
  · exact by rw [updW_n (by omega)]; exact f.cas
  · exact by rw [updW_s]; exact hv
  · exact by rw [updW_n (by omega)]; exact f.law
  · exact by rw [updW_n (by omega)]; exact f.hou
  · exact by rw [updW_n (by omega)]; exact f.day
  · exact by rw [updW_n (by omega)]; exact f.log
  · exact by rw [updW_n (by omega)]; exact f.see
  · exact fun k hk => by rw [updW_n (by omega)]; exact f.inn k hk
  · exact fun p hp => by rw [updW_n (show 20 + p ≠ _ by omega), updW_n (show 1 ≠ _ by omega)]; exact f.pla p hp
  · exact fun p q hp hq h1 h2 => by rw [updW_n (show 20 + p ≠ _ by omega)] at h1 h2; rw [updW_n (show 20 + q ≠ _ by omega)] at h1; exact f.one p q hp hq h1 h2
  · exact fun p hp h1 => by rw [updW_n (show 0 ≠ _ by omega)] at h1; rw [updW_n (show 20 + p ≠ _ by omega)]; exact f.out p hp h1
  · exact fun j hj => by rw [updW_n (by omega), updW_n (by omega), updW_n (by omega), updW_n (by omega)]; exact f.jof j hj
  · exact fun c hc => by rw [updW_n (by omega), updW_n (by omega), updW_n (by omega), updW_n (by omega), updW_n (by omega), updW_n (by omega), updW_n (by omega)]; exact f.cof c hc
  · exact fun c h1 => by rw [updW_n (show 1 ≠ _ by omega)] at h1; have := f.cas; rw [updW_n (by omega)]; exact f.lea c h1
  · exact fun c hc h1 => by rw [updW_n (show 1 ≠ _ by omega)] at h1; rw [updW_n (by omega)]; exact f.wai c hc h1
  · exact fun r i hr hi => by rw [updW_n (by omega)]; exact f.row r i hr hi
theorem WF.uho {w : Nat → Int} {v : Int} (f : WF w) (hv : 0 ≤ v ∧ v < 12) : WF (updW w (4) v) := by
  refine ⟨?_, ?_, ?_, ?_, ?_, ?_, ?_, ?_, ?_, ?_, ?_, ?_, ?_, ?_, ?_, ?_, ?_⟩
  · exact by rw [updW_n (by omega)]; exact f.jud
  · exact by rw [updW_n (by omega)]; exact f.cas
  · exact by rw [updW_n (by omega)]; exact f.tex
  · exact by rw [updW_n (by omega)]; exact f.law
  · exact by rw [updW_s]; exact hv
  · exact by rw [updW_n (by omega)]; exact f.day
  · exact by rw [updW_n (by omega)]; exact f.log
  · exact by rw [updW_n (by omega)]; exact f.see
  · exact fun k hk => by rw [updW_n (by omega)]; exact f.inn k hk
  · exact fun p hp => by rw [updW_n (show 20 + p ≠ _ by omega), updW_n (show 1 ≠ _ by omega)]; exact f.pla p hp
  · exact fun p q hp hq h1 h2 => by rw [updW_n (show 20 + p ≠ _ by omega)] at h1 h2; rw [updW_n (show 20 + q ≠ _ by omega)] at h1; exact f.one p q hp hq h1 h2
  · exact fun p hp h1 => by rw [updW_n (show 0 ≠ _ by omega)] at h1; rw [updW_n (show 20 + p ≠ _ by omega)]; exact f.out p hp h1
  · exact fun j hj => by rw [updW_n (by omega), updW_n (by omega), updW_n (by omega), updW_n (by omega)]; exact f.jof j hj
  · exact fun c hc => by rw [updW_n (by omega), updW_n (by omega), updW_n (by omega), updW_n (by omega), updW_n (by omega), updW_n (by omega), updW_n (by omega)]; exact f.cof c hc
  · exact fun c h1 => by rw [updW_n (show 1 ≠ _ by omega)] at h1; have := f.cas; rw [updW_n (by omega)]; exact f.lea c h1
  · exact fun c hc h1 => by rw [updW_n (show 1 ≠ _ by omega)] at h1; rw [updW_n (by omega)]; exact f.wai c hc h1
  · exact fun r i hr hi => by rw [updW_n (by omega)]; exact f.row r i hr hi
theorem WF.uda {w : Nat → Int} {v : Int} (f : WF w) (hv : 0 ≤ v ∧ v ≤ 9999) : WF (updW w (5) v) := by
  refine ⟨?_, ?_, ?_, ?_, ?_, ?_, ?_, ?_, ?_, ?_, ?_, ?_, ?_, ?_, ?_, ?_, ?_⟩
  · exact by rw [updW_n (by omega)]; exact f.jud
  · exact by rw [updW_n (by omega)]; exact f.cas
  · exact by rw [updW_n (by omega)]; exact f.tex
  · exact by rw [updW_n (by omega)]; exact f.law
  · exact by rw [updW_n (by omega)]; exact f.hou
  · exact by rw [updW_s]; exact hv
  · exact by rw [updW_n (by omega)]; exact f.log
  · exact by rw [updW_n (by omega)]; exact f.see
  · exact fun k hk => by rw [updW_n (by omega)]; exact f.inn k hk
  · exact fun p hp => by rw [updW_n (show 20 + p ≠ _ by omega), updW_n (show 1 ≠ _ by omega)]; exact f.pla p hp
  · exact fun p q hp hq h1 h2 => by rw [updW_n (show 20 + p ≠ _ by omega)] at h1 h2; rw [updW_n (show 20 + q ≠ _ by omega)] at h1; exact f.one p q hp hq h1 h2
  · exact fun p hp h1 => by rw [updW_n (show 0 ≠ _ by omega)] at h1; rw [updW_n (show 20 + p ≠ _ by omega)]; exact f.out p hp h1
  · exact fun j hj => by rw [updW_n (by omega), updW_n (by omega), updW_n (by omega), updW_n (by omega)]; exact f.jof j hj
  · exact fun c hc => by rw [updW_n (by omega), updW_n (by omega), updW_n (by omega), updW_n (by omega), updW_n (by omega), updW_n (by omega), updW_n (by omega)]; exact f.cof c hc
  · exact fun c h1 => by rw [updW_n (show 1 ≠ _ by omega)] at h1; have := f.cas; rw [updW_n (by omega)]; exact f.lea c h1
  · exact fun c hc h1 => by rw [updW_n (show 1 ≠ _ by omega)] at h1; rw [updW_n (by omega)]; exact f.wai c hc h1
  · exact fun r i hr hi => by rw [updW_n (by omega)]; exact f.row r i hr hi
theorem WF.use {w : Nat → Int} {v : Int} (f : WF w) (hv : in32 v) : WF (updW w (7) v) := by
  refine ⟨?_, ?_, ?_, ?_, ?_, ?_, ?_, ?_, ?_, ?_, ?_, ?_, ?_, ?_, ?_, ?_, ?_⟩
  · exact by rw [updW_n (by omega)]; exact f.jud
  · exact by rw [updW_n (by omega)]; exact f.cas
  · exact by rw [updW_n (by omega)]; exact f.tex
  · exact by rw [updW_n (by omega)]; exact f.law
  · exact by rw [updW_n (by omega)]; exact f.hou
  · exact by rw [updW_n (by omega)]; exact f.day
  · exact by rw [updW_n (by omega)]; exact f.log
  · exact by rw [updW_s]; exact hv
  · exact fun k hk => by rw [updW_n (by omega)]; exact f.inn k hk
  · exact fun p hp => by rw [updW_n (show 20 + p ≠ _ by omega), updW_n (show 1 ≠ _ by omega)]; exact f.pla p hp
  · exact fun p q hp hq h1 h2 => by rw [updW_n (show 20 + p ≠ _ by omega)] at h1 h2; rw [updW_n (show 20 + q ≠ _ by omega)] at h1; exact f.one p q hp hq h1 h2
  · exact fun p hp h1 => by rw [updW_n (show 0 ≠ _ by omega)] at h1; rw [updW_n (show 20 + p ≠ _ by omega)]; exact f.out p hp h1
  · exact fun j hj => by rw [updW_n (by omega), updW_n (by omega), updW_n (by omega), updW_n (by omega)]; exact f.jof j hj
  · exact fun c hc => by rw [updW_n (by omega), updW_n (by omega), updW_n (by omega), updW_n (by omega), updW_n (by omega), updW_n (by omega), updW_n (by omega)]; exact f.cof c hc
  · exact fun c h1 => by rw [updW_n (show 1 ≠ _ by omega)] at h1; have := f.cas; rw [updW_n (by omega)]; exact f.lea c h1
  · exact fun c hc h1 => by rw [updW_n (show 1 ≠ _ by omega)] at h1; rw [updW_n (by omega)]; exact f.wai c hc h1
  · exact fun r i hr hi => by rw [updW_n (by omega)]; exact f.row r i hr hi
theorem WF.upl {w : Nat → Int} {v : Int} (f : WF w) {k : Nat} (hk0 : k < 60) (hv : v = -1 ∨ (0 ≤ v ∧ v < w 1) ∧ (∀ q, q < 60 → w (20 + q) ≠ v) ∧ (k : Int) < 12 * w 0) : WF (updW w (20 + k) v) := by
  refine ⟨?_, ?_, ?_, ?_, ?_, ?_, ?_, ?_, ?_, ?_, ?_, ?_, ?_, ?_, ?_, ?_, ?_⟩
  · exact by rw [updW_n (by omega)]; exact f.jud
  · exact by rw [updW_n (by omega)]; exact f.cas
  · exact by rw [updW_n (by omega)]; exact f.tex
  · exact by rw [updW_n (by omega)]; exact f.law
  · exact by rw [updW_n (by omega)]; exact f.hou
  · exact by rw [updW_n (by omega)]; exact f.day
  · exact by rw [updW_n (by omega)]; exact f.log
  · exact by rw [updW_n (by omega)]; exact f.see
  · exact fun k hk => by rw [updW_n (by omega)]; exact f.inn k hk
  · exact fun p hp => by
      rw [updW_n (show 1 ≠ _ by omega)]
      by_cases e : p = k
      · subst e; rw [updW_s]; omega
      · rw [updW_n (by omega)]; exact f.pla p hp
  · exact fun p q hp hq h1 h2 => by
      by_cases e : p = k
      · subst e
        by_cases e2 : q = p
        · exact e2.symm
        · rw [updW_s] at h1 h2
          rw [updW_n (by omega)] at h1
          rcases hv with hv | hv
          · exact absurd hv h2
          · exact absurd h1.symm (hv.2.1 q hq)
      · rw [updW_n (by omega)] at h1 h2
        by_cases e2 : q = k
        · subst e2
          rw [updW_s] at h1
          rcases hv with hv | hv
          · exact absurd (h1.trans hv) h2
          · exact absurd h1 (hv.2.1 p hp)
        · rw [updW_n (by omega)] at h1
          exact f.one p q hp hq h1 h2
  · exact fun p hp h1 => by
      rw [updW_n (show 0 ≠ _ by omega)] at h1
      by_cases e : p = k
      · subst e; rw [updW_s]; omega
      · rw [updW_n (by omega)]; exact f.out p hp h1
  · exact fun j hj => by rw [updW_n (by omega), updW_n (by omega), updW_n (by omega), updW_n (by omega)]; exact f.jof j hj
  · exact fun c hc => by rw [updW_n (by omega), updW_n (by omega), updW_n (by omega), updW_n (by omega), updW_n (by omega), updW_n (by omega), updW_n (by omega)]; exact f.cof c hc
  · exact fun c h1 => by rw [updW_n (show 1 ≠ _ by omega)] at h1; have := f.cas; rw [updW_n (by omega)]; exact f.lea c h1
  · exact fun c hc h1 => by rw [updW_n (show 1 ≠ _ by omega)] at h1; rw [updW_n (by omega)]; exact f.wai c hc h1
  · exact fun r i hr hi => by rw [updW_n (by omega)]; exact f.row r i hr hi
/-- the law's text is the same -/
def SameL (w w' : Nat → Int) : Prop := ∀ i, i = 3 ∨ 516 ≤ i → w' i = w i
theorem SameL.rf (w : Nat → Int) : SameL w w := fun _ _ => rfl
theorem SameL.tr {a b c : Nat → Int} (h1 : SameL a b) (h2 : SameL b c) : SameL a c := fun i hi => (h2 i hi).trans (h1 i hi)
theorem SameL.upd {w w' : Nat → Int} (h1 : SameL w w') {k : Nat} {v : Int} (hk : k < 516) (hk3 : k ≠ 3) : SameL w (updW w' k v) := fun i hi => by rw [updW_n (by omega)]; exact h1 i hi
theorem runL_same {F w w' : Nat → Int} (hs : SameL w w') : ∀ (k i : Nat) (s : List Int), runL F w' i k s = runL F w i k s := by
  intro k
  induction k with
  | zero => intro i s; rfl
  | succ k ih =>
    intro i s
    unfold runL
    rw [hs (565 + 2 * i) (Or.inr (by omega)), hs (566 + 2 * i) (Or.inr (by omega))]
    cases stepL F (w (565 + 2 * i)) (w (566 + 2 * i)) s with
    | none => rfl
    | some s2 => exact ih (i + 1) s2
theorem hold_same {F w w' : Nat → Int} (hs : SameL w w') (n : Nat) : hold F w' n = hold F w n := by
  unfold hold
  rw [runL_same hs, hs (519 + 4 * n) (Or.inr (by omega)), hs (520 + 4 * n) (Or.inr (by omega))]
theorem sumW_same {F w w' : Nat → Int} (hs : SameL w w') (v : Int) : sumW F w' v = sumW F w v := by
  unfold sumW
  rw [hs 3 (Or.inl rfl), hs 516 (Or.inr (by omega))]
  have e1 : (fun n => w' (518 + 4 * n)) = (fun n => w (518 + 4 * n)) := by funext n; exact hs _ (Or.inr (by omega))
  have e2 : sumP F w' v = sumP F w v := by funext n; unfold sumP; rw [hold_same hs, hs (517 + 4 * n) (Or.inr (by omega))]
  rw [e1, e2]
theorem LawOK.same {w w' : Nat → Int} (h : LawOK w) (hs : SameL w w') : LawOK w' := by
  intro h3
  rw [hs 3 (Or.inl rfl)] at h3
  obtain ⟨a, b, c, d⟩ := h h3
  refine ⟨by rw [hs 516 (Or.inr (by omega))]; exact a, ?_, ?_, ?_⟩
  · rw [hs 516 (Or.inr (by omega)), hs 519 (Or.inr (by omega))]; exact b
  · intro n hn
    rw [hs 516 (Or.inr (by omega))] at hn
    rw [hs _ (Or.inr (by omega)), hs _ (Or.inr (by omega))]; exact c n hn
  · intro n hn
    rw [hs 516 (Or.inr (by omega))] at hn
    have := d n hn
    unfold LnOK at this ⊢
    rw [hs (517 + 4 * n) (Or.inr (by omega)), hs (518 + 4 * n) (Or.inr (by omega)), hs (519 + 4 * n) (Or.inr (by omega)), hs (520 + 4 * n) (Or.inr (by omega))]
    obtain ⟨x1, x2, x3, x4, x5⟩ := this
    refine ⟨x1, x2, x3, fun F hF => ?_, fun i hi => ?_⟩
    · rw [runL_same hs]; exact x4 F hF
    · rw [hs _ (Or.inr (by omega)), hs _ (Or.inr (by omega))]; exact x5 i hi
theorem Lw.same {h : Hc} {r : Nat} {w w' : Nat → Int} (q : Lw h r w) (hs : SameL w w') : Lw h r w' := by
  unfold Lw
  rw [hs 3 (Or.inl rfl), hs 516 (Or.inr (by omega))]
  refine ⟨q.1, fun h3 => ⟨(q.2 h3).1, fun n hn => ?_⟩⟩
  rw [hs _ (Or.inr (by omega)), hs _ (Or.inr (by omega)), hs _ (Or.inr (by omega))]
  obtain ⟨a, b, c, d⟩ := (q.2 h3).2 n hn
  exact ⟨a, b, c, fun i hi => by rw [hs _ (Or.inr (by omega)), hs _ (Or.inr (by omega))]; exact d i hi⟩
