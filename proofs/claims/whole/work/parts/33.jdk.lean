/-! LONGS as natural numbers; how many bits -/
theorem ofN64 (n : Nat) : Int64.ofInt (n : Int) = Int64.ofNat n := Int64.ofInt_eq_ofNat
theorem toI64 {n : Nat} (h : n < 9223372036854775808) : (Int64.ofNat n).toInt = (n : Int) := by
  rw [← ofN64]
  exact toInt_ofInt64 ⟨by omega, by omega⟩
theorem in64_nat {n : Nat} (h : n < 9223372036854775808) : in64 (n : Int) := ⟨by omega, by omega⟩
theorem andLN {a b : Nat} (ha : a < 9223372036854775808) : andL (a : Int) (b : Int) = ((a &&& b : Nat) : Int) := by
  unfold andL
  have e : Int64.ofNat a &&& Int64.ofNat b = Int64.ofNat (a &&& b) := by
    apply Int64.toBitVec_inj.1
    show BitVec.ofNat 64 a &&& BitVec.ofNat 64 b = BitVec.ofNat 64 (a &&& b)
    apply BitVec.eq_of_getLsbD_eq
    intro i hi
    simp [hi]
  rw [ofN64, ofN64, e]
  exact toI64 (Nat.lt_of_le_of_lt Nat.and_le_left ha)
theorem orLN {a b k : Nat} (ha : a < 2 ^ k) (hb : b < 2 ^ k) (hk : k ≤ 63) : orL (a : Int) (b : Int) = ((a ||| b : Nat) : Int) := by
  unfold orL
  have e : Int64.ofNat a ||| Int64.ofNat b = Int64.ofNat (a ||| b) := by
    apply Int64.toBitVec_inj.1
    show BitVec.ofNat 64 a ||| BitVec.ofNat 64 b = BitVec.ofNat 64 (a ||| b)
    apply BitVec.eq_of_getLsbD_eq
    intro i hi
    simp [hi]
  rw [ofN64, ofN64, e]
  have h1 : a ||| b < 2 ^ k := Nat.or_lt_two_pow ha hb
  have h2 : 2 ^ k ≤ 2 ^ 63 := Nat.pow_le_pow_right (by decide) hk
  exact toI64 (by omega)
theorem shlL1 : ∀ k : Nat, k < 62 → shlL 1 (k : Int) = ((2 ^ k : Nat) : Int) := by decide +kernel
theorem shA64 : ∀ k : Nat, k < 63 → (((Int32.ofInt (k : Int)).toInt64 &&& 63).toBitVec.smod 64).toNat = k := by decide +kernel
theorem shrLN {n k : Nat} (hn : n < 9223372036854775808) (hk : k < 63) : shrL (n : Int) (k : Int) = ((n / 2 ^ k : Nat) : Int) := by
  unfold shrL
  show (Int64.ofInt (n : Int) >>> ((Int32.ofInt (k : Int)).toInt64 &&& 63)).toBitVec.toInt = _
  rw [Int64.toBitVec_shiftRight]
  show ((Int64.ofInt (n : Int)).toBitVec.sshiftRight (((Int32.ofInt (k : Int)).toInt64 &&& 63).toBitVec.smod 64).toNat).toInt = _
  rw [shA64 k hk, BitVec.toInt_sshiftRight]
  have e : (Int64.ofInt (n : Int)).toBitVec.toInt = (n : Int) := toInt_ofInt64 ⟨by omega, by omega⟩
  rw [e, Int.shiftRight_eq_div_pow]
  rfl
theorem bitL {n k : Nat} (hn : n < 9223372036854775808) (hk : k < 63) : andL (shrL (n : Int) (k : Int)) 1 = bI (n.testBit k) := by
  have h0 : n / 2 ^ k ≤ n := Nat.div_le_self _ _
  rw [shrLN hn hk, show (1 : Int) = ((1 : Nat) : Int) from rfl, andLN (by omega), Nat.and_one_is_mod]
  have : n.testBit k = decide (n / 2 ^ k % 2 = 1) := Nat.testBit_eq_decide_div_mod_eq
  rw [this]
  unfold bI
  rcases Nat.mod_two_eq_zero_or_one (n / 2 ^ k) with h | h <;> rw [h] <;> rfl
theorem cmp01 (b : Bool) : cmpL (bI b) 0 = bI b := by cases b <;> rfl
section
variable {d kc ks : Nat} {y : Mth} {pc n t : Nat} {ls st : List AV} {g : Gs} {h : Hc} {P : Po}
theorem R_ladd {a b : Int} (hd : D y pc (.ladd) 1 n) (hin : in64 (a + b)) (K : Run d kc ks y n ls (vL (a + b) :: st) g h P) : Run d kc ks y pc ls (vL b :: vL a :: st) g h P := by
  intro z p l e R s m args below meth c H locs cells slots rls C hc hs hR hE hS hL ho1 ho2
  obtain ⟨hd, rfl⟩ := hd
  have k9 := K z p l e R s m args below meth c H locs cells slots rls C hc hs hR hE hS hL ho1 (okV_cons (okA_L hin) (okV_tl (okV_tl ho2)))
  rw [List.map_cons, show enc z (vL (a + b)) = .long (Int64.ofInt a + Int64.ofInt b) from congrArg Value.long (Int64.ofInt_add a b)] at k9
  exact lv_ladd C.1 C.2.1 hd k9
theorem R_lsub {a b : Int} (hd : D y pc (.lsub) 1 n) (hin : in64 (a - b)) (K : Run d kc ks y n ls (vL (a - b) :: st) g h P) : Run d kc ks y pc ls (vL b :: vL a :: st) g h P := by
  intro z p l e R s m args below meth c H locs cells slots rls C hc hs hR hE hS hL ho1 ho2
  obtain ⟨hd, rfl⟩ := hd
  have k9 := K z p l e R s m args below meth c H locs cells slots rls C hc hs hR hE hS hL ho1 (okV_cons (okA_L hin) (okV_tl (okV_tl ho2)))
  rw [List.map_cons, show enc z (vL (a - b)) = .long (Int64.ofInt a - Int64.ofInt b) from congrArg Value.long (Int64.ofInt_sub a b)] at k9
  exact lv_lsub C.1 C.2.1 hd k9
theorem ushA64 : ∀ k : Nat, k < 63 → (((Int32.ofInt (k : Int)).toInt64.toUInt64 &&& Int64.toUInt64 63).toNat % 64) = k := by decide +kernel
theorem R_lushr {a k : Nat} {i : Int} (hd : D y pc (.lushr) 1 n) (hi : i = (k : Int)) (ha : a < 9223372036854775808) (hk : k < 63) (K : Run d kc ks y n ls (vL ((a / 2 ^ k : Nat) : Int) :: st) g h P) : Run d kc ks y pc ls (vI i :: vL (a : Int) :: st) g h P := by
  intro z p l e R s m args below meth c H locs cells slots rls C hc hs hR hE hS hL ho1 ho2
  obtain ⟨hd, rfl⟩ := hd
  subst hi
  have h0 : a / 2 ^ k ≤ a := Nat.div_le_self _ _
  have k9 := K z p l e R s m args below meth c H locs cells slots rls C hc hs hR hE hS hL ho1 (okV_cons (okA_L (in64_nat (Nat.lt_of_le_of_lt h0 ha))) (okV_tl (okV_tl ho2)))
  refine lv_lushr C.1 C.2.1 hd ?_ k9
  rw [ofN64, ofN64]
  apply Int64.toBitVec_inj.1
  apply BitVec.eq_of_toNat_eq
  show ((Int64.ofNat a).toUInt64 >>> ((Int32.ofInt (k : Int)).toInt64.toUInt64 &&& Int64.toUInt64 63)).toNat = (UInt64.ofNat (a / 2 ^ k)).toNat
  rw [UInt64.toNat_shiftRight, ushA64 k hk]
  show (BitVec.ofNat 64 a).toNat >>> k = (BitVec.ofNat 64 (a / 2 ^ k)).toNat
  rw [BitVec.toNat_ofNat, BitVec.toNat_ofNat, Nat.mod_eq_of_lt (by omega), Nat.mod_eq_of_lt (Nat.lt_of_le_of_lt h0 (by omega)), Nat.shiftRight_eq_div_pow]
theorem R_l2i {a : Int} (hd : D y pc (.l2i) 1 n) (K : Run d kc ks y n ls (vI (wrap a) :: st) g h P) : Run d kc ks y pc ls (vL a :: st) g h P := by
  intro z p l e R s m args below meth c H locs cells slots rls C hc hs hR hE hS hL ho1 ho2
  obtain ⟨hd, rfl⟩ := hd
  have k9 := K z p l e R s m args below meth c H locs cells slots rls C hc hs hR hE hS hL ho1 (okV_cons (okA_I (in32_wrap _)) (okV_tl ho2))
  refine lv_l2i C.1 C.2.1 hd ?_ k9
  rw [ofInt_wrap]
  exact Int64.toInt32_ofInt
end
/-- a set of places as bits -/
def nset (p : Nat → Bool) : Nat → Nat := foldN (fun k a => if p k then a ||| 2 ^ k else a) 0
theorem nset_t {p : Nat → Bool} {n : Nat} (h : p n = true) : nset p (n + 1) = nset p n ||| 2 ^ n := by simp [nset, foldN_s, h]
theorem nset_f {p : Nat → Bool} {n : Nat} (h : p n = false) : nset p (n + 1) = nset p n := by simp [nset, foldN_s, h]
theorem nset_lt (p : Nat → Bool) : ∀ n, nset p n < 2 ^ n
  | 0 => by show (0 : Nat) < 1; omega
  | n + 1 => by
    have h := nset_lt p n
    have e : 2 ^ (n + 1) = 2 ^ n + 2 ^ n := by rw [Nat.pow_succ]; omega
    cases hp : p n
    · rw [nset_f hp]; omega
    · rw [nset_t hp]
      exact Nat.or_lt_two_pow (by omega) (by have := Nat.two_pow_pos n; omega)
theorem nset_bit (p : Nat → Bool) (k : Nat) : ∀ n, (nset p n).testBit k = (decide (k < n) && p k)
  | 0 => by show (0 : Nat).testBit k = _; simp
  | n + 1 => by
    have ih := nset_bit p k n
    cases hp : p n
    · rw [nset_f hp, ih]
      by_cases e : k = n
      · subst e; simp [hp]
      · have : decide (k < n + 1) = decide (k < n) := by simp; omega
        rw [this]
    · rw [nset_t hp, Nat.testBit_or, ih, Nat.testBit_two_pow]
      by_cases e : k = n
      · subst e; simp [hp]
      · have : decide (k < n + 1) = decide (k < n) := by simp; omega
        rw [this]
        simp
        intro q
        exact absurd q.symm e
/-! the sum of a long's bits -/
def val16 : List Nat → Nat
  | [] => 0
  | x :: r => x + 16 * val16 r
def dg16 : Nat → Nat → List Nat
  | 0, _ => []
  | k + 1, n => n % 16 :: dg16 k (n / 16)
theorem dg16_val : ∀ k n, n < 16 ^ k → val16 (dg16 k n) = n
  | 0, n, h => by have : n = 0 := by simpa using h
                  subst this; rfl
  | k + 1, n, h => by
    show n % 16 + 16 * val16 (dg16 k (n / 16)) = n
    rw [dg16_val k (n / 16) (by rw [Nat.pow_succ] at h; omega)]
    omega
theorem dg16_lt : ∀ k n, ∀ x ∈ dg16 k n, x < 16
  | 0, _, x, h => nomatch h
  | k + 1, n, x, h => by
    rcases List.mem_cons.mp h with rfl | h
    · omega
    · exact dg16_lt k (n / 16) x h
theorem dg16_len : ∀ k n, (dg16 k n).length = k
  | 0, _ => rfl
  | k + 1, n => by show (dg16 k (n / 16)).length + 1 = _; rw [dg16_len]
theorem and16 {a b x y : Nat} (hx : x < 16) (hy : y < 16) : (x + 16 * a) &&& (y + 16 * b) = (x &&& y) + 16 * (a &&& b) := by
  have h1 : ((x + 16 * a) &&& (y + 16 * b)) % 2 ^ 4 = ((x + 16 * a) % 2 ^ 4) &&& ((y + 16 * b) % 2 ^ 4) := Nat.and_mod_two_pow
  have h2 : ((x + 16 * a) &&& (y + 16 * b)) / 2 ^ 4 = ((x + 16 * a) / 2 ^ 4) &&& ((y + 16 * b) / 2 ^ 4) := Nat.and_div_two_pow
  rw [show (x + 16 * a) % 2 ^ 4 = x by omega, show (y + 16 * b) % 2 ^ 4 = y by omega] at h1
  rw [show (x + 16 * a) / 2 ^ 4 = a by omega, show (y + 16 * b) / 2 ^ 4 = b by omega] at h2
  omega
theorem v16_and {m : Nat} (hm : m < 16) : ∀ {xs : List Nat}, (∀ x ∈ xs, x < 16) → val16 xs &&& val16 (List.replicate xs.length m) = val16 (xs.map (fun x => x &&& m))
  | [], _ => Nat.zero_and _
  | x :: r, h => by
    show (x + 16 * val16 r) &&& (m + 16 * val16 (List.replicate r.length m)) = _
    rw [and16 (h x List.mem_cons_self) hm, v16_and hm (fun y hy => h y (List.mem_cons_of_mem _ hy))]
    rfl
theorem t16a : ∀ x, x < 16 → ∀ b, b < 2 → (x / 2 + 8 * b) &&& 5 = (x / 2) &&& 5 := by decide
theorem v16_h : ∀ {xs : List Nat}, (∀ x ∈ xs, x < 16) → (val16 xs / 2) &&& val16 (List.replicate xs.length 5) = val16 (xs.map (fun x => (x / 2) &&& 5))
  | [], _ => rfl
  | x :: r, h => by
    have hx := h x List.mem_cons_self
    show ((x + 16 * val16 r) / 2) &&& (5 + 16 * val16 (List.replicate r.length 5)) = _
    rw [show (x + 16 * val16 r) / 2 = (x / 2 + 8 * (val16 r % 2)) + 16 * (val16 r / 2) by omega, and16 (by omega) (by decide), v16_h (fun y hy => h y (List.mem_cons_of_mem _ hy)), t16a x hx _ (by omega)]
    rfl
theorem t16b : ∀ x, x < 16 → ∀ b, b < 4 → (x / 4 + 4 * b) &&& 3 = (x / 4) &&& 3 := by decide
theorem v16_q : ∀ {xs : List Nat}, (∀ x ∈ xs, x < 16) → (val16 xs / 4) &&& val16 (List.replicate xs.length 3) = val16 (xs.map (fun x => (x / 4) &&& 3))
  | [], _ => rfl
  | x :: r, h => by
    have hx := h x List.mem_cons_self
    show ((x + 16 * val16 r) / 4) &&& (3 + 16 * val16 (List.replicate r.length 3)) = _
    rw [show (x + 16 * val16 r) / 4 = (x / 4 + 4 * (val16 r % 4)) + 16 * (val16 r / 4) by omega, and16 (by omega) (by decide), v16_q (fun y hy => h y (List.mem_cons_of_mem _ hy)), t16b x hx _ (by omega)]
    rfl
theorem v16_sub {f : Nat → Nat} : ∀ {xs : List Nat}, (∀ x ∈ xs, f x ≤ x) → val16 (xs.map f) ≤ val16 xs ∧ val16 xs - val16 (xs.map f) = val16 (xs.map (fun x => x - f x))
  | [], _ => ⟨Nat.le_refl _, rfl⟩
  | x :: r, h => by
    have h1 := h x List.mem_cons_self
    obtain ⟨h2, h3⟩ := v16_sub (f := f) (xs := r) (fun y hy => h y (List.mem_cons_of_mem _ hy))
    show f x + 16 * val16 (r.map f) ≤ x + 16 * val16 r ∧ x + 16 * val16 r - (f x + 16 * val16 (r.map f)) = (x - f x) + 16 * val16 (r.map (fun x => x - f x))
    omega
theorem v16_add (f k : Nat → Nat) : ∀ xs : List Nat, val16 (xs.map f) + val16 (xs.map k) = val16 (xs.map (fun x => f x + k x))
  | [] => rfl
  | x :: r => by
    have := v16_add f k r
    show f x + 16 * val16 (r.map f) + (k x + 16 * val16 (r.map k)) = (f x + k x) + 16 * val16 (r.map (fun x => f x + k x))
    omega
/-- the nibbles two by two -/
def val256 : List Nat → Nat
  | x :: y :: r => (x + y) + 256 * val256 r
  | _ => 0
def m15 : Nat → Nat
  | 0 => 0
  | k + 1 => 15 + 256 * m15 k
theorem t16c : ∀ x, x < 16 → x &&& 15 = x := by decide
theorem v16_b : ∀ (k : Nat) {xs : List Nat}, xs.length = 2 * k → (∀ x ∈ xs, x ≤ 4) → (val16 xs + val16 xs / 16) &&& m15 k = val256 xs
  | 0, [], _, _ => rfl
  | k + 1, x :: y :: r, hl, h => by
    have hx := h x List.mem_cons_self
    have hy := h y (List.mem_cons_of_mem _ List.mem_cons_self)
    have ih := v16_b k (xs := r) (by simp at hl; omega) (fun z hz => h z (List.mem_cons_of_mem _ (List.mem_cons_of_mem _ hz)))
    have hr : val16 r % 16 ≤ 4 := by
      cases r with
      | nil => show 0 % 16 ≤ 4; omega
      | cons z r2 =>
        have := h z (List.mem_cons_of_mem _ (List.mem_cons_of_mem _ List.mem_cons_self))
        show (z + 16 * val16 r2) % 16 ≤ 4
        omega
    show ((x + 16 * (y + 16 * val16 r)) + (x + 16 * (y + 16 * val16 r)) / 16) &&& (15 + 256 * m15 k) = (x + y) + 256 * val256 r
    rw [show (x + 16 * (y + 16 * val16 r)) + (x + 16 * (y + 16 * val16 r)) / 16 = (x + y) + 16 * ((y + val16 r % 16) + 16 * (val16 r + val16 r / 16)) by omega, show 15 + 256 * m15 k = 15 + 16 * (0 + 16 * m15 k) by omega, and16 (by omega) (by decide), and16 (by omega) (by decide), ih, t16c _ (by omega), Nat.and_zero]
    omega
/-- the sum of nibbles' bits is that of all -/
def pc4 (x : Nat) : Nat := x % 2 + x / 2 % 2 + x / 4 % 2 + x / 8
theorem pc4_le : ∀ x, x < 16 → pc4 x ≤ 4 := by decide
theorem g12 : ∀ x, x < 16 → ((x - ((x / 2) &&& 5)) &&& 3) + (((x - ((x / 2) &&& 5)) / 4) &&& 3) = pc4 x := by decide
theorem gle : ∀ x, x < 16 → (x / 2) &&& 5 ≤ x := by decide
def sumL : List Nat → Nat
  | [] => 0
  | x :: r => x + sumL r
def pcN (n : Nat) : Nat := cntB (fun i => n.testBit i) 64
theorem foldN_split {α : Type} (f : Nat → α → α) (a : α) (m : Nat) : ∀ n, foldN f a (m + n) = foldN (fun k => f (m + k)) (foldN f a m) n
  | 0 => rfl
  | n + 1 => by rw [← Nat.add_assoc, foldN_s, foldN_split f a m n]; rfl
theorem cntB_from (p : Nat → Bool) (a : Nat) : ∀ n, foldN (fun c a => if p c then a + 1 else a) a n = a + cntB p n
  | 0 => rfl
  | n + 1 => by
    rw [foldN_s, cntB_from p a n]
    cases h : p n
    · rw [cntB_f h]; simp
    · rw [cntB_t h]; simp; omega
theorem cntB_split (p : Nat → Bool) (m n : Nat) : cntB p (m + n) = cntB p m + cntB (fun k => p (m + k)) n := by
  unfold cntB
  rw [foldN_split]
  exact cntB_from (fun k => p (m + k)) _ n
theorem pc4_bits : ∀ x, x < 16 → cntB (fun i => x.testBit i) 4 = pc4 x := by decide
theorem pc_dg : ∀ k n, cntB (fun i => n.testBit i) (4 * k) = sumL ((dg16 k n).map pc4)
  | 0, _ => rfl
  | k + 1, n => by
    rw [show 4 * (k + 1) = 4 + 4 * k by omega, cntB_split]
    show _ = pc4 (n % 16) + sumL ((dg16 k (n / 16)).map pc4)
    rw [← pc4_bits (n % 16) (by omega), ← pc_dg k (n / 16)]
    congr 1
    · refine cntB_cong (fun i hi => ?_)
      rw [show n % 16 = n % 2 ^ 4 from rfl, Nat.testBit_mod_two_pow]
      simp [hi]
    · refine cntB_cong (fun i hi => ?_)
      rw [show n / 16 = n / 2 ^ 4 from rfl, Nat.testBit_div_two_pow, Nat.add_comm]
theorem fin8 {c0 c1 c2 c3 c4 c5 c6 c7 c : Nat} (h0 : c0 ≤ 8) (h1 : c1 ≤ 8) (h2 : c2 ≤ 8) (h3 : c3 ≤ 8) (h4 : c4 ≤ 8) (h5 : c5 ≤ 8) (h6 : c6 ≤ 8) (h7 : c7 ≤ 8) (hc : c = c0 + 256 * (c1 + 256 * (c2 + 256 * (c3 + 256 * (c4 + 256 * (c5 + 256 * (c6 + 256 * c7))))))) :
    c < 4611686018427387904 ∧ ((c + c / 256) + (c + c / 256) / 65536 + ((c + c / 256) + (c + c / 256) / 65536) / 4294967296) % 128 = c0 + c1 + c2 + c3 + c4 + c5 + c6 + c7 := by
  obtain ⟨r4, e4⟩ : ∃ r, r = c4 + 256 * (c5 + 256 * (c6 + 256 * c7)) := ⟨_, rfl⟩
  have b4 : r4 ≤ 135274560 := by omega
  rw [← e4] at hc
  have q1 : c / 256 = c1 + 256 * (c2 + 256 * (c3 + 256 * r4)) := by omega
  refine ⟨by omega, ?_⟩
  rw [q1]
  obtain ⟨u4, f4⟩ : ∃ u, u = (c4 + c5) + 256 * ((c5 + c6) + 256 * ((c6 + c7) + 256 * c7)) := ⟨_, rfl⟩
  have e5 : c + (c1 + 256 * (c2 + 256 * (c3 + 256 * r4))) = (c0 + c1) + 256 * ((c1 + c2) + 256 * ((c2 + c3) + 256 * ((c3 + c4) + 256 * u4))) := by omega
  rw [e5]
  have q2 : ((c0 + c1) + 256 * ((c1 + c2) + 256 * ((c2 + c3) + 256 * ((c3 + c4) + 256 * u4)))) / 65536 = (c2 + c3) + 256 * ((c3 + c4) + 256 * u4) := by omega
  rw [q2]
  obtain ⟨v4, g4⟩ : ∃ v, v = (c4 + c5 + c6 + c7) + 256 * ((c5 + c6 + c7) + 256 * ((c6 + c7) + 256 * c7)) := ⟨_, rfl⟩
  have e6 : (c0 + c1) + 256 * ((c1 + c2) + 256 * ((c2 + c3) + 256 * ((c3 + c4) + 256 * u4))) + ((c2 + c3) + 256 * ((c3 + c4) + 256 * u4)) = (c0 + c1 + c2 + c3) + 256 * ((c1 + c2 + c3 + c4) + 256 * ((c2 + c3 + c4 + c5) + 256 * ((c3 + c4 + c5 + c6) + 256 * v4))) := by omega
  rw [e6]
  have q3 : ((c0 + c1 + c2 + c3) + 256 * ((c1 + c2 + c3 + c4) + 256 * ((c2 + c3 + c4 + c5) + 256 * ((c3 + c4 + c5 + c6) + 256 * v4)))) / 4294967296 = v4 := by omega
  rw [q3, g4]
  omega
theorem v16_le : ∀ {L : List Nat}, (∀ x ∈ L, x ≤ 4) → 15 * val16 L + 4 ≤ 4 * 16 ^ L.length
  | [], _ => by show 15 * 0 + 4 ≤ 4 * 16 ^ 0; omega
  | x :: r, h => by
    have h1 := h x List.mem_cons_self
    have h2 := v16_le (L := r) (fun y hy => h y (List.mem_cons_of_mem _ hy))
    show 15 * (x + 16 * val16 r) + 4 ≤ 4 * 16 ^ (r.length + 1)
    rw [Nat.pow_succ]
    omega
theorem consL {n : Nat} {L : List Nat} (h : L.length = n + 1) : ∃ a T, L = a :: T ∧ T.length = n := by
  cases L with
  | nil => cases h
  | cons a T => exact ⟨a, T, rfl, by simpa using h⟩
theorem fin16 {L : List Nat} (hl : L.length = 16) (hd : ∀ x ∈ L, x ≤ 4) : val16 L < 5000000000000000000 ∧ val256 L < 4611686018427387904 ∧ ((val256 L + val256 L / 256) + (val256 L + val256 L / 256) / 65536 + ((val256 L + val256 L / 256) + (val256 L + val256 L / 256) / 65536) / 4294967296) % 128 = sumL L := by
  have hb := v16_le hd
  rw [hl] at hb
  refine ⟨by omega, ?_⟩
  clear hb
  obtain ⟨a0, L1, rfl, hl1⟩ := consL hl
  obtain ⟨a1, L2, rfl, hl2⟩ := consL hl1
  obtain ⟨a2, L3, rfl, hl3⟩ := consL hl2
  obtain ⟨a3, L4, rfl, hl4⟩ := consL hl3
  obtain ⟨a4, L5, rfl, hl5⟩ := consL hl4
  obtain ⟨a5, L6, rfl, hl6⟩ := consL hl5
  obtain ⟨a6, L7, rfl, hl7⟩ := consL hl6
  obtain ⟨a7, L8, rfl, hl8⟩ := consL hl7
  obtain ⟨a8, L9, rfl, hl9⟩ := consL hl8
  obtain ⟨a9, L10, rfl, hl10⟩ := consL hl9
  obtain ⟨b0, L11, rfl, hl11⟩ := consL hl10
  obtain ⟨b1, L12, rfl, hl12⟩ := consL hl11
  obtain ⟨b2, L13, rfl, hl13⟩ := consL hl12
  obtain ⟨b3, L14, rfl, hl14⟩ := consL hl13
  obtain ⟨b4, L15, rfl, hl15⟩ := consL hl14
  obtain ⟨b5, L16, rfl, hl16⟩ := consL hl15
  have hL0 := List.length_eq_zero_iff.mp hl16
  subst hL0
  simp only [List.mem_cons, List.not_mem_nil, or_false, forall_eq_or_imp, forall_eq] at hd
  obtain ⟨d0, d1, d2, d3, d4, d5, d6, d7, d8, d9, f0, f1, f2, f3, f4, f5⟩ := hd
  have hE : val256 [a0, a1, a2, a3, a4, a5, a6, a7, a8, a9, b0, b1, b2, b3, b4, b5] = (a0 + a1) + 256 * ((a2 + a3) + 256 * ((a4 + a5) + 256 * ((a6 + a7) + 256 * ((a8 + a9) + 256 * ((b0 + b1) + 256 * ((b2 + b3) + 256 * (b4 + b5))))))) := by simp only [val256, Nat.mul_zero, Nat.add_zero]
  have this := fin8 (c0 := a0 + a1) (c1 := a2 + a3) (c2 := a4 + a5) (c3 := a6 + a7) (c4 := a8 + a9) (c5 := b0 + b1) (c6 := b2 + b3) (c7 := b4 + b5) (by omega) (by omega) (by omega) (by omega) (by omega) (by omega) (by omega) (by omega) hE
  refine ⟨this.1, this.2.trans ?_⟩
  simp only [sumL]; omega
theorem bcL {n : Nat} (hn : n < 2305843009213693952) : ∃ y z : Nat, (n / 2) &&& 6148914691236517205 ≤ n ∧ y = n - ((n / 2) &&& 6148914691236517205) ∧ y < 4611686018427387904 ∧ z = (y &&& 3689348814741910323) + ((y / 4) &&& 3689348814741910323) ∧ z < 5000000000000000000 ∧
    ∃ c : Nat, c = (z + z / 16) &&& 1085102592571150095 ∧ c < 4611686018427387904 ∧ ((c + c / 256) + (c + c / 256) / 65536 + ((c + c / 256) + (c + c / 256) / 65536) / 4294967296) % 128 = pcN n := by
  have hv := dg16_val 16 n (by omega)
  have hlt := dg16_lt 16 n
  have hln := dg16_len 16 n
  have e1 := v16_h hlt
  rw [hv, hln, show val16 (List.replicate 16 5) = 6148914691236517205 by decide +kernel] at e1
  obtain ⟨e2, e3⟩ := v16_sub (f := fun x => (x / 2) &&& 5) (xs := dg16 16 n) (fun x hx => gle x (hlt x hx))
  rw [hv, ← e1] at e2 e3
  refine ⟨_, _, e2, rfl, by omega, rfl, ?_⟩
  have hlt2 : ∀ x ∈ (dg16 16 n).map (fun x => x - ((x / 2) &&& 5)), x < 16 := by
    intro x hx
    obtain ⟨a, ha, rfl⟩ := List.mem_map.mp hx
    have := hlt a ha
    omega
  have e4 := v16_and (m := 3) (by decide) hlt2
  have e5 := v16_q hlt2
  rw [List.length_map, hln, ← e3, show val16 (List.replicate 16 3) = 3689348814741910323 by decide +kernel] at e4 e5
  rw [List.map_map] at e4 e5
  have e6 := v16_add ((fun x => x &&& 3) ∘ (fun x => x - ((x / 2) &&& 5))) ((fun x => (x / 4) &&& 3) ∘ (fun x => x - ((x / 2) &&& 5))) (dg16 16 n)
  rw [← e4, ← e5] at e6
  have e7 : (dg16 16 n).map (fun x => ((fun x => x &&& 3) ∘ (fun x => x - ((x / 2) &&& 5))) x + ((fun x => (x / 4) &&& 3) ∘ (fun x => x - ((x / 2) &&& 5))) x) = (dg16 16 n).map pc4 := List.map_congr_left (fun x hx => g12 x (hlt x hx))
  rw [e7] at e6
  have e8 := v16_b 8 (xs := (dg16 16 n).map pc4) (by rw [List.length_map, hln]) (fun x hx => by
    obtain ⟨a, ha, rfl⟩ := List.mem_map.mp hx
    exact pc4_le a (hlt a ha))
  have e9 := pc_dg 16 n
  rw [e6, show (1085102592571150095 : Nat) = m15 8 by decide +kernel]
  unfold pcN
  rw [e9]
  have hd : ∀ x ∈ (dg16 16 n).map pc4, x ≤ 4 := fun x hx => by
    obtain ⟨a, ha, rfl⟩ := List.mem_map.mp hx
    exact pc4_le a (hlt a ha)
  have hl : ((dg16 16 n).map pc4).length = 16 := by rw [List.length_map, hln]
  obtain ⟨z1, z2, z3⟩ := fin16 hl hd
  exact ⟨z1, _, rfl, by rw [e8]; exact z2, by rw [e8]; exact z3⟩
