/-! FIELDS AND ARRAYS -/
/-- a link of a field: own class, entry; the receiver's class and the field's place there; whether a reference; its type; final -/
def FPW (own : String) (idx ci k N : Nat) (b : Bool) (ty : FieldType) (fin : Bool) : Prop := ∃ (C : String) (T : u_T) (ref : String) (ty0 : Nat → FieldType), vwCl[ci]? = some (C, T, N) ∧ k < N ∧ fkR ci k = b ∧ ci < 12 ∧
  (∀ w ∈ u_ws C T N, w ∈ lwg) ∧ Cond.fieldLink own idx ref (T k).2.1 (T k).2.2.1 ∈ lwg ∧ (ref = (T k).1 ∨ Cond.sameField ref (T k).1 (T k).2.1 (T k).2.2.1 ∈ lwg) ∧
  (∀ k, k < N → parseFieldDescriptor (T k).2.2.1 = some (ty0 k)) ∧ (∀ a, a < N → ∀ b, b < N → a ≠ b → (T a).2.1 ≠ (T b).2.1) ∧ (T k).2.2.2 = fin ∧ parseFieldDescriptor (T k).2.2.1 = some ty ∧ (fin = true → (T k).1 = own)
/-- .. to read it -/
def FP (own : String) (idx ci k N : Nat) (b : Bool) : Prop := ∃ (C : String) (T : u_T) (ref : String), vwCl[ci]? = some (C, T, N) ∧ k < N ∧ fkR ci k = b ∧ ci < 12 ∧
  (∀ w ∈ u_ws C T N, w ∈ lwg) ∧ Cond.fieldLink own idx ref (T k).2.1 (T k).2.2.1 ∈ lwg ∧ (ref = (T k).1 ∨ Cond.sameField ref (T k).1 (T k).2.1 (T k).2.2.1 ∈ lwg)
theorem FPW.r {own : String} {idx ci k N : Nat} {b : Bool} {ty : FieldType} {fin : Bool} (h : FPW own idx ci k N b ty fin) : FP own idx ci k N b := by
  obtain ⟨C, T, ref, ty0, h1, h2, h3, h4, h5, h6, h7, -⟩ := h
  exact ⟨C, T, ref, h1, h2, h3, h4, h5, h6, h7⟩
theorem encC_obj {z : Zw} {f : Nat → Int} {ci N : Nat} {rs : List Int} (h : ci < 12) : encC z f (ci, N, rs) = .inr (ci, (List.range N).map (encF z ci rs f)) := by
  unfold encC
  rw [if_pos h]
theorem encC_int {z : Zw} {f : Nat → Int} {N : Nat} {rs : List Int} : encC z f (13, N, rs) = .inl (zA z 1, N, .inl (fun i => Int32.ofInt (f i))) := rfl
theorem encC_byte {z : Zw} {f : Nat → Int} {N : Nat} {rs : List Int} : encC z f (12, N, rs) = .inl (zA z 0, N, .inl (fun i => Int32.ofInt (f i))) := rfl
theorem encC_bool {z : Zw} {f : Nat → Int} {N : Nat} {rs : List Int} : encC z f (15, N, rs) = .inl (zA z 3, N, .inl (fun i => Int32.ofInt (f i))) := rfl
theorem encC_long {z : Zw} {f : Nat → Int} {N : Nat} {rs : List Int} : encC z f (14, N, rs) = .inl (zA z 2, N, .inr (.inl (fun i => Int64.ofInt (f i)))) := rfl
theorem encC_refs {z : Zw} {f : Nat → Int} {N : Nat} {rs : List Int} : encC z f (16, N, rs) = .inl (zA z 4, N, .inr (.inr (.inr (.inr (fun i => rfO z (rs.getD i (-1))))))) := rfl
theorem rng_get {F : Nat → Value} {N k : Nat} (hk : k < N) : ((List.range N).map F)[k]? = some (F k) := by
  rw [List.getElem?_map, List.getElem?_range hk]
  rfl
theorem rng_set {F G : Nat → Value} {N k : Nat} {v : Value} (hk : k < N) (h1 : G k = v) (h2 : ∀ j, j ≠ k → G j = F j) : ((List.range N).map F).set k v = (List.range N).map G := by
  refine List.ext_getElem? fun j => ?_
  by_cases e : j = k
  · subst e
    rw [List.getElem?_set_self (by simp; exact hk), rng_get hk, h1]
  · rw [List.getElem?_set_ne (Ne.symm e)]
    by_cases hj : j < N
    · rw [rng_get hj, rng_get hj, h2 j e]
    · rw [List.getElem?_eq_none (by simp; omega), List.getElem?_eq_none (by simp; omega)]
theorem okC_32 {c : Sh} {f : Nat → Int} (h : okC c f) (hc : c.1 ≠ 14) (j : Nat) : in32 (f j) := by
  have := h j
  rwa [if_neg hc] at this
theorem okC_64 {c : Sh} {f : Nat → Int} (h : okC c f) (hc : c.1 = 14) (j : Nat) : in64 (f j) := by
  have := h j
  rwa [if_pos hc] at this
section
theorem fit01 {a : Int} (ha : a = 0 ∨ a = 1) : fits .boolean (.int (Int32.ofInt a)) = true := by
  rcases ha with rfl | rfl <;> rfl
theorem nr01 {a : Int} (ha : a = 0 ∨ a = 1) : vp_nar .boolean (Int32.ofInt a) = Int32.ofInt a := by
  rcases ha with rfl | rfl <;> rfl
variable {d kc ks : Nat} {y : Mth} {pc n t : Nat} {ls st : List AV} {g : Gs} {h : Hc} {P : Po}
theorem R_getI {idx ci k N a : Nat} {rs : List Int} (hd : D y pc (.getfield idx) 3 n) (hf : FP (mC y) idx ci k N false) (hg : g.1[a]? = some (ci, N, rs)) (K : Run d kc ks y n ls (vI (h a k) :: st) g h P) : Run d kc ks y pc ls (vR a :: st) g h P := by
  intro z p l e R s m args below meth c H locs cells slots rls C hc hs hR hE hS hL ho1 ho2
  obtain ⟨hd, rfl⟩ := hd
  obtain ⟨C9, T, ref, f1, f2, f3, f4, f5, f6, f7⟩ := hf
  have k9 := K z p l e R s m args below meth c H locs cells slots rls C hc hs hR hE hS hL ho1 (okV_cons (okA_I (okC_32 (hR.2.1 a _ hg) (by show ci ≠ 14; omega) k)) (okV_tl ho2))
  have e9 := wsO_get (z := z) (h := h) hg
  rw [encC_obj f4] at e9
  rw [List.map_cons, enc_vR]
  refine va_get (T := T) C.1 C.2.1 C.hts f5 C.own C.K hR.1 a e9 f1 k f2 (C.hts _ f6) ?_ (rng_get f2) hd ?_
  · rcases f7 with rfl | f7
    · exact fun _ h => h
    · exact fun x hx => u_same (C.hts _ f7) x hx
  · unfold encF
    rw [f3]
    exact k9
theorem R_getR {idx ci k N a b : Nat} {rs : List Int} (hd : D y pc (.getfield idx) 3 n) (hf : FP (mC y) idx ci k N true) (hg : g.1[a]? = some (ci, N, rs)) (hb : rs.getD k (-1) = (b : Int)) (K : Run d kc ks y n ls (vR b :: st) g h P) : Run d kc ks y pc ls (vR a :: st) g h P := by
  intro z p l e R s m args below meth c H locs cells slots rls C hc hs hR hE hS hL ho1 ho2
  obtain ⟨hd, rfl⟩ := hd
  obtain ⟨C9, T, ref, f1, f2, f3, f4, f5, f6, f7⟩ := hf
  have k9 := K z p l e R s m args below meth c H locs cells slots rls C hc hs hR hE hS hL ho1 (okV_cons (okA_R _) (okV_tl ho2))
  have e9 := wsO_get (z := z) (h := h) hg
  rw [encC_obj f4] at e9
  rw [List.map_cons, enc_vR]
  refine va_get (T := T) C.1 C.2.1 C.hts f5 C.own C.K hR.1 a e9 f1 k f2 (C.hts _ f6) ?_ (rng_get f2) hd ?_
  · rcases f7 with rfl | f7
    · exact fun _ h => h
    · exact fun x hx => u_same (C.hts _ f7) x hx
  · unfold encF
    rw [f3, hb]
    exact k9
theorem R_putI {idx ci k N a : Nat} {rs : List Int} {v : Int} (hd : D y pc (.putfield idx) 3 n) (hf : FPW (mC y) idx ci k N false .int false) (hg : g.1[a]? = some (ci, N, rs)) (K : Run d kc ks y n ls st g (updH h a k v) P) : Run d kc ks y pc ls (vI v :: vR a :: st) g h P := by
  intro z p l e R s m args below meth c H locs cells slots rls C hc hs hR hE hS hL ho1 ho2
  obtain ⟨hd, rfl⟩ := hd
  obtain ⟨C9, T, ref, ty0, f1, f2, f3, f4, f5, f6, f7, f8, f9, f10, f11, f12⟩ := hf
  have e9 := wsO_get (z := z) (h := h) hg
  rw [encC_obj f4] at e9
  rw [List.map_cons, List.map_cons, enc_vR]
  refine va_put (T := T) C.1 C.2.1 C.hts f5 ty0 f8 f9 C.own C.K hR.1 wsO_D hS a e9 f1 k f2 (C.hts _ f6) ?_ f10 f11 rfl rfl (by simp; exact f2) hd (fun H1 locs1 hP1 hD1 hS1 => ?_)
  · rcases f7 with rfl | f7
    · exact fun _ h => h
    · exact fun x hx => u_same (C.hts _ f7) x hx
  · refine K z p l e R s m args below meth c H1 locs1 cells slots rls C hc hs (Rep.upd hR hg ?_ (okC_upd (hR.2.1 a _ hg) (by rw [if_neg (by show ci ≠ 14; omega)]; exact (okV_hd ho2).i))) hE hS1 hL ho1 (okV_tl (okV_tl ho2))
    rw [encC_obj f4, ← rng_set (F := encF z ci rs (h a)) (v := .int (Int32.ofInt v)) f2 (by unfold encF; rw [f3]; simp) (fun j hj => by unfold encF; simp [hj])]
    exact hP1
theorem R_putIZ {idx ci k N a : Nat} {rs : List Int} {v : Int} (hd : D y pc (.putfield idx) 3 n) (hf : FPW (mC y) idx ci k N false .boolean false) (hg : g.1[a]? = some (ci, N, rs)) (hv : v = 0 ∨ v = 1) (K : Run d kc ks y n ls st g (updH h a k v) P) : Run d kc ks y pc ls (vI v :: vR a :: st) g h P := by
  intro z p l e R s m args below meth c H locs cells slots rls C hc hs hR hE hS hL ho1 ho2
  obtain ⟨hd, rfl⟩ := hd
  obtain ⟨C9, T, ref, ty0, f1, f2, f3, f4, f5, f6, f7, f8, f9, f10, f11, f12⟩ := hf
  have e9 := wsO_get (z := z) (h := h) hg
  rw [encC_obj f4] at e9
  rw [List.map_cons, List.map_cons, enc_vR]
  refine va_put (T := T) C.1 C.2.1 C.hts f5 ty0 f8 f9 C.own C.K hR.1 wsO_D hS a e9 f1 k f2 (C.hts _ f6) ?_ f10 f11 (nar01 hv) (fit01 hv) (by simp; exact f2) hd (fun H1 locs1 hP1 hD1 hS1 => ?_)
  · rcases f7 with rfl | f7
    · exact fun _ h => h
    · exact fun x hx => u_same (C.hts _ f7) x hx
  · refine K z p l e R s m args below meth c H1 locs1 cells slots rls C hc hs (Rep.upd hR hg ?_ (okC_upd (hR.2.1 a _ hg) (by rw [if_neg (by show ci ≠ 14; omega)]; exact (okV_hd ho2).i))) hE hS1 hL ho1 (okV_tl (okV_tl ho2))
    rw [encC_obj f4, ← rng_set (F := encF z ci rs (h a)) (v := .int (Int32.ofInt v)) f2 (by unfold encF; rw [f3]; simp) (fun j hj => by unfold encF; simp [hj])]
    exact hP1
theorem R_putIF {idx ci k N a : Nat} {rs : List Int} {v : Int} (hd : D y pc (.putfield idx) 3 n) (hf : FPW (mC y) idx ci k N false .int true) (hg : g.1[a]? = some (ci, N, rs)) (hin : (mN y).name = "<init>") (K : Run d kc ks y n ls st g (updH h a k v) P) : Run d kc ks y pc ls (vI v :: vR a :: st) g h P := by
  intro z p l e R s m args below meth c H locs cells slots rls C hc hs hR hE hS hL ho1 ho2
  obtain ⟨hd, rfl⟩ := hd
  obtain ⟨C9, T, ref, ty0, f1, f2, f3, f4, f5, f6, f7, f8, f9, f10, f11, f12⟩ := hf
  have e9 := wsO_get (z := z) (h := h) hg
  rw [encC_obj f4] at e9
  rw [List.map_cons, List.map_cons, enc_vR]
  refine va_putF (T := T) C.1 C.2.1 C.hts f5 ty0 f8 f9 C.own C.K hR.1 wsO_D hS a e9 f1 k f2 (C.hts _ f6) ?_ f10 (C.rest.2.2.trans hin) (f12 rfl) f11 rfl rfl (by simp; exact f2) hd (fun H1 locs1 hP1 hD1 hS1 => ?_)
  · rcases f7 with rfl | f7
    · exact fun _ h => h
    · exact fun x hx => u_same (C.hts _ f7) x hx
  · refine K z p l e R s m args below meth c H1 locs1 cells slots rls C hc hs (Rep.upd hR hg ?_ (okC_upd (hR.2.1 a _ hg) (by rw [if_neg (by show ci ≠ 14; omega)]; exact (okV_hd ho2).i))) hE hS1 hL ho1 (okV_tl (okV_tl ho2))
    rw [encC_obj f4, ← rng_set (F := encF z ci rs (h a)) (v := .int (Int32.ofInt v)) f2 (by unfold encF; rw [f3]; simp) (fun j hj => by unfold encF; simp [hj])]
    exact hP1
theorem R_putIFZ {idx ci k N a : Nat} {rs : List Int} {v : Int} (hd : D y pc (.putfield idx) 3 n) (hf : FPW (mC y) idx ci k N false .boolean true) (hg : g.1[a]? = some (ci, N, rs)) (hv : v = 0 ∨ v = 1) (hin : (mN y).name = "<init>") (K : Run d kc ks y n ls st g (updH h a k v) P) : Run d kc ks y pc ls (vI v :: vR a :: st) g h P := by
  intro z p l e R s m args below meth c H locs cells slots rls C hc hs hR hE hS hL ho1 ho2
  obtain ⟨hd, rfl⟩ := hd
  obtain ⟨C9, T, ref, ty0, f1, f2, f3, f4, f5, f6, f7, f8, f9, f10, f11, f12⟩ := hf
  have e9 := wsO_get (z := z) (h := h) hg
  rw [encC_obj f4] at e9
  rw [List.map_cons, List.map_cons, enc_vR]
  refine va_putF (T := T) C.1 C.2.1 C.hts f5 ty0 f8 f9 C.own C.K hR.1 wsO_D hS a e9 f1 k f2 (C.hts _ f6) ?_ f10 (C.rest.2.2.trans hin) (f12 rfl) f11 (nar01 hv) (fit01 hv) (by simp; exact f2) hd (fun H1 locs1 hP1 hD1 hS1 => ?_)
  · rcases f7 with rfl | f7
    · exact fun _ h => h
    · exact fun x hx => u_same (C.hts _ f7) x hx
  · refine K z p l e R s m args below meth c H1 locs1 cells slots rls C hc hs (Rep.upd hR hg ?_ (okC_upd (hR.2.1 a _ hg) (by rw [if_neg (by show ci ≠ 14; omega)]; exact (okV_hd ho2).i))) hE hS1 hL ho1 (okV_tl (okV_tl ho2))
    rw [encC_obj f4, ← rng_set (F := encF z ci rs (h a)) (v := .int (Int32.ofInt v)) f2 (by unfold encF; rw [f3]; simp) (fun j hj => by unfold encF; simp [hj])]
    exact hP1
theorem R_iald {a N : Nat} {rs : List Int} {i : Int} (hd : D y pc (.iaload) 1 n) (hg : g.1[a]? = some (13, N, rs)) (h0 : 0 ≤ i) (h1 : i < (N : Int)) (K : Run d kc ks y n ls (vI (h a i.toNat) :: st) g h P) : Run d kc ks y pc ls (vI i :: vR a :: st) g h P := by
  intro z p l e R s m args below meth c H locs cells slots rls C hc hs hR hE hS hL ho1 ho2
  obtain ⟨hd, rfl⟩ := hd
  have hi := (okV_hd ho2).i
  have k9 := K z p l e R s m args below meth c H locs cells slots rls C hc hs hR hE hS hL ho1 (okV_cons (okA_I (okC_32 (hR.2.1 a _ hg) (by simp) i.toNat)) (okV_tl (okV_tl ho2)))
  have e9 := wsO_get (z := z) (h := h) hg
  rw [List.map_cons, List.map_cons, enc_vR]
  refine va_iald C.1 C.2.1 C.K hR.1 a 1 e9 rfl (vin32 h0 hi h1) hd ?_
  rw [clamp32 h0 hi]
  exact k9
theorem R_lald {a N : Nat} {rs : List Int} {i : Int} (hd : D y pc (.laload) 1 n) (hg : g.1[a]? = some (14, N, rs)) (h0 : 0 ≤ i) (h1 : i < (N : Int)) (K : Run d kc ks y n ls (vL (h a i.toNat) :: st) g h P) : Run d kc ks y pc ls (vI i :: vR a :: st) g h P := by
  intro z p l e R s m args below meth c H locs cells slots rls C hc hs hR hE hS hL ho1 ho2
  obtain ⟨hd, rfl⟩ := hd
  have hi := (okV_hd ho2).i
  have k9 := K z p l e R s m args below meth c H locs cells slots rls C hc hs hR hE hS hL ho1 (okV_cons (okA_L (okC_64 (hR.2.1 a _ hg) rfl i.toNat)) (okV_tl (okV_tl ho2)))
  have e9 := wsO_get (z := z) (h := h) hg
  rw [List.map_cons, List.map_cons, enc_vR]
  refine va_lald C.1 C.2.1 C.K hR.1 a 2 e9 rfl (vin32 h0 hi h1) hd ?_
  rw [clamp32 h0 hi]
  exact k9
theorem R_bald {a N : Nat} {rs : List Int} {i : Int} (hd : D y pc (.baload) 1 n) (hg : g.1[a]? = some (12, N, rs)) (h0 : 0 ≤ i) (h1 : i < (N : Int)) (K : Run d kc ks y n ls (vI (h a i.toNat) :: st) g h P) : Run d kc ks y pc ls (vI i :: vR a :: st) g h P := by
  intro z p l e R s m args below meth c H locs cells slots rls C hc hs hR hE hS hL ho1 ho2
  obtain ⟨hd, rfl⟩ := hd
  have hi := (okV_hd ho2).i
  have k9 := K z p l e R s m args below meth c H locs cells slots rls C hc hs hR hE hS hL ho1 (okV_cons (okA_I (okC_32 (hR.2.1 a _ hg) (by simp) i.toNat)) (okV_tl (okV_tl ho2)))
  have e9 := wsO_get (z := z) (h := h) hg
  rw [List.map_cons, List.map_cons, enc_vR]
  refine va_bald C.1 C.2.1 C.K hR.1 a 0 e9 rfl (vin32 h0 hi h1) hd ?_
  rw [clamp32 h0 hi]
  exact k9
theorem R_zald {a N : Nat} {rs : List Int} {i : Int} (hd : D y pc (.baload) 1 n) (hg : g.1[a]? = some (15, N, rs)) (h0 : 0 ≤ i) (h1 : i < (N : Int)) (K : Run d kc ks y n ls (vI (h a i.toNat) :: st) g h P) : Run d kc ks y pc ls (vI i :: vR a :: st) g h P := by
  intro z p l e R s m args below meth c H locs cells slots rls C hc hs hR hE hS hL ho1 ho2
  obtain ⟨hd, rfl⟩ := hd
  have hi := (okV_hd ho2).i
  have k9 := K z p l e R s m args below meth c H locs cells slots rls C hc hs hR hE hS hL ho1 (okV_cons (okA_I (okC_32 (hR.2.1 a _ hg) (by simp) i.toNat)) (okV_tl (okV_tl ho2)))
  have e9 := wsO_get (z := z) (h := h) hg
  rw [List.map_cons, List.map_cons, enc_vR]
  refine va_zald C.1 C.2.1 C.K hR.1 a 3 e9 rfl (vin32 h0 hi h1) hd ?_
  rw [clamp32 h0 hi]
  exact k9
theorem R_iast {a N : Nat} {rs : List Int} {i v : Int} (hd : D y pc (.iastore) 1 n) (hg : g.1[a]? = some (13, N, rs)) (h0 : 0 ≤ i) (h1 : i < (N : Int)) (K : Run d kc ks y n ls st g (updH h a i.toNat (v)) P) : Run d kc ks y pc ls (vI v :: vI i :: vR a :: st) g h P := by
  intro z p l e R s m args below meth c H locs cells slots rls C hc hs hR hE hS hL ho1 ho2
  obtain ⟨hd, rfl⟩ := hd
  have hi := (okV_hd (okV_tl ho2)).i
  have e9 := wsO_get (z := z) (h := h) hg
  rw [List.map_cons, List.map_cons, List.map_cons, enc_vR]
  refine va_iast C.1 C.2.1 C.K hR.1 wsO_D hS a 1 e9 rfl (vin32 h0 hi h1) hd (fun H1 locs1 hP1 hD1 hS1 => ?_)
  refine K z p l e R s m args below meth c H1 locs1 cells slots rls C hc hs (Rep.upd hR hg ?_ (okC_upd (hR.2.1 a _ hg) (by rw [if_neg (by simp)]; exact (okV_hd ho2).i))) hE hS1 hL ho1 (okV_tl (okV_tl (okV_tl ho2)))
  rw [clamp32 h0 hi] at hP1
  rw [show encC z (fun j => if j = i.toNat then v else h a j) (13, N, rs) = .inl (zA z 1, N, .inl (upd (fun j => Int32.ofInt (h a j)) i.toNat (Int32.ofInt v))) from by
    show Sum.inl (_, _, Sum.inl _) = _
    congr 4
    funext j
    by_cases e : j = i.toNat
    · simp [upd, e]
    · simp [upd, e]]
  exact hP1
theorem R_bast {a N : Nat} {rs : List Int} {i v : Int} (hd : D y pc (.bastore) 1 n) (hg : g.1[a]? = some (12, N, rs)) (h0 : 0 ≤ i) (h1 : i < (N : Int)) (K : Run d kc ks y n ls st g (updH h a i.toNat (wrapB v)) P) : Run d kc ks y pc ls (vI v :: vI i :: vR a :: st) g h P := by
  intro z p l e R s m args below meth c H locs cells slots rls C hc hs hR hE hS hL ho1 ho2
  obtain ⟨hd, rfl⟩ := hd
  have hi := (okV_hd (okV_tl ho2)).i
  have e9 := wsO_get (z := z) (h := h) hg
  rw [List.map_cons, List.map_cons, List.map_cons, enc_vR]
  refine va_bast C.1 C.2.1 C.K hR.1 wsO_D hS a 0 e9 rfl (vin32 h0 hi h1) hd (fun H1 locs1 hP1 hD1 hS1 => ?_)
  refine K z p l e R s m args below meth c H1 locs1 cells slots rls C hc hs (Rep.upd hR hg ?_ (okC_upd (hR.2.1 a _ hg) (by rw [if_neg (by simp)]; exact in32_toInt _))) hE hS1 hL ho1 (okV_tl (okV_tl (okV_tl ho2)))
  rw [clamp32 h0 hi] at hP1
  rw [show encC z (fun j => if j = i.toNat then wrapB v else h a j) (12, N, rs) = .inl (zA z 0, N, .inl (upd (fun j => Int32.ofInt (h a j)) i.toNat (vp_nar .byte (Int32.ofInt v)))) from by
    show Sum.inl (_, _, Sum.inl _) = _
    congr 4
    funext j
    by_cases e : j = i.toNat
    · simp [upd, e, ofInt_wrapB, vp_nar_byte]
    · simp [upd, e]]
  exact hP1
theorem R_zast {a N : Nat} {rs : List Int} {i v : Int} (hd : D y pc (.bastore) 1 n) (hg : g.1[a]? = some (15, N, rs)) (h0 : 0 ≤ i) (h1 : i < (N : Int)) (hv : v = 0 ∨ v = 1) (K : Run d kc ks y n ls st g (updH h a i.toNat (v)) P) : Run d kc ks y pc ls (vI v :: vI i :: vR a :: st) g h P := by
  intro z p l e R s m args below meth c H locs cells slots rls C hc hs hR hE hS hL ho1 ho2
  obtain ⟨hd, rfl⟩ := hd
  have hi := (okV_hd (okV_tl ho2)).i
  have e9 := wsO_get (z := z) (h := h) hg
  rw [List.map_cons, List.map_cons, List.map_cons, enc_vR]
  refine va_zast C.1 C.2.1 C.K hR.1 wsO_D hS a 3 e9 rfl (vin32 h0 hi h1) hd (fun H1 locs1 hP1 hD1 hS1 => ?_)
  refine K z p l e R s m args below meth c H1 locs1 cells slots rls C hc hs (Rep.upd hR hg ?_ (okC_upd (hR.2.1 a _ hg) (by rw [if_neg (by simp)]; exact (okV_hd ho2).i))) hE hS1 hL ho1 (okV_tl (okV_tl (okV_tl ho2)))
  rw [clamp32 h0 hi] at hP1
  rw [show encC z (fun j => if j = i.toNat then v else h a j) (15, N, rs) = .inl (zA z 3, N, .inl (upd (fun j => Int32.ofInt (h a j)) i.toNat (vp_nar .boolean (Int32.ofInt v)))) from by
    show Sum.inl (_, _, Sum.inl _) = _
    congr 4
    funext j
    by_cases e : j = i.toNat
    · simp [upd, e, nr01 hv]
    · simp [upd, e]]
  exact hP1
theorem R_last {a N : Nat} {rs : List Int} {i v : Int} (hd : D y pc (.lastore) 1 n) (hg : g.1[a]? = some (14, N, rs)) (h0 : 0 ≤ i) (h1 : i < (N : Int)) (K : Run d kc ks y n ls st g (updH h a i.toNat (v)) P) : Run d kc ks y pc ls (vL v :: vI i :: vR a :: st) g h P := by
  intro z p l e R s m args below meth c H locs cells slots rls C hc hs hR hE hS hL ho1 ho2
  obtain ⟨hd, rfl⟩ := hd
  have hi := (okV_hd (okV_tl ho2)).i
  have e9 := wsO_get (z := z) (h := h) hg
  rw [List.map_cons, List.map_cons, List.map_cons, enc_vR]
  refine va_last C.1 C.2.1 C.K hR.1 wsO_D hS a 2 e9 rfl (vin32 h0 hi h1) hd (fun H1 locs1 hP1 hD1 hS1 => ?_)
  refine K z p l e R s m args below meth c H1 locs1 cells slots rls C hc hs (Rep.upd hR hg ?_ (okC_upd (hR.2.1 a _ hg) (by rw [if_pos rfl]; exact (okV_hd ho2).l))) hE hS1 hL ho1 (okV_tl (okV_tl (okV_tl ho2)))
  rw [clamp32 h0 hi] at hP1
  rw [show encC z (fun j => if j = i.toNat then v else h a j) (14, N, rs) = .inl (zA z 2, N, .inr (.inl (vp_updL (fun j => Int64.ofInt (h a j)) i.toNat (Int64.ofInt v)))) from by
    show Sum.inl (_, _, Sum.inr (Sum.inl _)) = _
    congr 5
    funext j
    by_cases e : j = i.toNat
    · simp [vp_updL, e]
    · simp [vp_updL, e]]
  exact hP1
theorem R_aald {a N b : Nat} {rs : List Int} {i : Int} (hd : D y pc .aaload 1 n) (hg : g.1[a]? = some (16, N, rs)) (h0 : 0 ≤ i) (h1 : i < (N : Int)) (hb : rs.getD i.toNat (-1) = (b : Int)) (K : Run d kc ks y n ls (vR b :: st) g h P) : Run d kc ks y pc ls (vI i :: vR a :: st) g h P := by
  intro z p l e R s m args below meth c H locs cells slots rls C hc hs hR hE hS hL ho1 ho2
  obtain ⟨hd, rfl⟩ := hd
  have hi := (okV_hd ho2).i
  have k9 := K z p l e R s m args below meth c H locs cells slots rls C hc hs hR hE hS hL ho1 (okV_cons (okA_R _) (okV_tl (okV_tl ho2)))
  have e9 := wsO_get (z := z) (h := h) hg
  rw [List.map_cons, List.map_cons, enc_vR]
  refine va_aldq C.1 C.2.1 C.K hR.1 a 4 e9 rfl (vin32 h0 hi h1) hd ?_
  rw [clamp32 h0 hi, hb]
  exact k9
theorem R_alen {a N : Nat} {rs : List Int} (hd : D y pc .arraylength 1 n) (hg : g.1[a]? = some (13, N, rs)) (hN : N < 2147483648) (K : Run d kc ks y n ls (vI (N : Int) :: st) g h P) : Run d kc ks y pc ls (vR a :: st) g h P := by
  intro z p l e R s m args below meth c H locs cells slots rls C hc hs hR hE hS hL ho1 ho2
  obtain ⟨hd, rfl⟩ := hd
  have k9 := K z p l e R s m args below meth c H locs cells slots rls C hc hs hR hE hS hL ho1 (okV_cons (okA_I (by unfold in32; omega)) (okV_tl ho2))
  have e9 := wsO_get (z := z) (h := h) hg
  rw [List.map_cons, enc_vR]
  exact va_alen C.1 C.2.1 C.K hR.1 a 1 e9 rfl (Int32.ofInt_eq_ofNat).symm hd k9
end
