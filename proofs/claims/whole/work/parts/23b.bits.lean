/-! rows on bits, shifts and unsigned numbers, to paste: each family out of a closed proof of our own, whole with what it rests on; each by itself clean at Lean in its own claim (generation 39, form 5). Take a family whole -/
/-! ===== Int32 by its bits: bt x i ===== -/
def bt (x : Int32) (i : Nat) : Bool := x.toBitVec.getLsbD i
theorem b_ext {x y : Int32} (h : ∀ i, i < 32 → bt x i = bt y i) : x = y := Int32.toBitVec_inj.mp (BitVec.eq_of_getLsbD_eq (fun i hi => h i hi))
theorem b_or (x y : Int32) (i : Nat) : bt (x ||| y) i = (bt x i || bt y i) := by unfold bt; rw [Int32.toBitVec_or, BitVec.getLsbD_or]
theorem b_and (x y : Int32) (i : Nat) : bt (x &&& y) i = (bt x i && bt y i) := by unfold bt; rw [Int32.toBitVec_and, BitVec.getLsbD_and]
theorem b_xor (x y : Int32) (i : Nat) : bt (x ^^^ y) i = (bt x i ^^ bt y i) := by unfold bt; rw [Int32.toBitVec_xor, BitVec.getLsbD_xor]
theorem b_big {x : Int32} {i : Nat} (h : 32 ≤ i) : bt x i = false := BitVec.getLsbD_of_ge _ _ h
theorem b_255 (i : Nat) : bt 255 i = decide (i < 8) := by
  rcases Nat.lt_or_ge i 32 with h | h
  · exact (by decide +kernel : ∀ i, i < 32 → bt 255 i = decide (i < 8)) i h
  · rw [b_big h, decide_eq_false (by omega)]
theorem b_65535 (i : Nat) : bt 65535 i = decide (i < 16) := by
  rcases Nat.lt_or_ge i 32 with h | h
  · exact (by decide +kernel : ∀ i, i < 32 → bt 65535 i = decide (i < 16)) i h
  · rw [b_big h, decide_eq_false (by omega)]
theorem b_m1 : ∀ i, i < 32 → bt (-1) i = true := by decide +kernel
theorem b_0 (i : Nat) : bt 0 i = false := BitVec.getLsbD_zero
theorem s_l : ∀ n, n < 32 → ((nI n &&& 31).toBitVec.smod 32).toNat = n := by decide +kernel
theorem s_u : ∀ n, n < 32 → (((nI n).toUInt32 &&& Int32.toUInt32 31).toBitVec % 32).toNat = n := by decide +kernel
theorem b_shl (n : Nat) (hn : n < 32) (x : Int32) {i : Nat} (hi : i < 32) : bt (x <<< (nI n &&& 31)) i = (decide (n ≤ i) && bt x (i - n)) := by
  unfold bt
  rw [Int32.toBitVec_shiftLeft]
  show (x.toBitVec <<< ((nI n &&& 31).toBitVec.smod 32).toNat).getLsbD i = _
  rw [s_l n hn, BitVec.getLsbD_shiftLeft]
  rcases Nat.lt_or_ge i n with h | h
  · simp [h, Nat.not_le.mpr h]
  · simp [hi, h, Nat.not_lt.mpr h]
theorem b_ushr (n : Nat) (hn : n < 32) (x : Int32) (i : Nat) : bt ((x.toUInt32 >>> ((nI n).toUInt32 &&& Int32.toUInt32 31)).toInt32) i = bt x (n + i) := by
  show (x.toUInt32 >>> ((nI n).toUInt32 &&& Int32.toUInt32 31)).toBitVec.getLsbD i = x.toUInt32.toBitVec.getLsbD (n + i)
  rw [UInt32.toBitVec_shiftRight]
  show (x.toUInt32.toBitVec >>> (((nI n).toUInt32 &&& Int32.toUInt32 31).toBitVec % 32).toNat).getLsbD i = _
  rw [s_u n hn, BitVec.getLsbD_ushiftRight]
theorem b_sshr (n : Nat) (hn : n < 32) (x : Int32) {i : Nat} (hi : i < 32) : bt (x >>> (nI n &&& 31)) i = if n + i < 32 then bt x (n + i) else bt x 31 := by
  unfold bt
  rw [Int32.toBitVec_shiftRight]
  show (x.toBitVec.sshiftRight ((nI n &&& 31).toBitVec.smod 32).toNat).getLsbD i = _
  rw [s_l n hn, BitVec.getLsbD_sshiftRight, BitVec.msb_eq_getLsbD_last]
  simp [hi]
theorem b_shl8 (x : Int32) {i : Nat} (hi : i < 32) : bt (x <<< ((8 : Int32) &&& 31)) i = (decide (8 ≤ i) && bt x (i - 8)) := b_shl 8 (by omega) x hi
theorem b_shl16 (x : Int32) {i : Nat} (hi : i < 32) : bt (x <<< ((16 : Int32) &&& 31)) i = (decide (16 ≤ i) && bt x (i - 16)) := b_shl 16 (by omega) x hi
theorem b_shl24 (x : Int32) {i : Nat} (hi : i < 32) : bt (x <<< ((24 : Int32) &&& 31)) i = (decide (24 ≤ i) && bt x (i - 24)) := b_shl 24 (by omega) x hi
theorem b_sshr8 (x : Int32) {i : Nat} (hi : i < 32) : bt (x >>> ((8 : Int32) &&& 31)) i = if 8 + i < 32 then bt x (8 + i) else bt x 31 := b_sshr 8 (by omega) x hi
/-! ===== nI under and, xor, >>>, one bit, 65535 ===== -/
/-! BITS of the ints as integers -/
def tb (x : Int) (k : Nat) : Bool := bt (Int32.ofInt x) k
theorem tb_or (a b : Int) (k : Nat) : tb (orI a b) k = (tb a k || tb b k) := by unfold tb; rw [ofInt_orI, b_or]
theorem tb_and (a b : Int) (k : Nat) : tb (andI a b) k = (tb a k && tb b k) := by unfold tb; rw [ofInt_andI, b_and]
theorem tb_xor (a b : Int) (k : Nat) : tb (xorI a b) k = (tb a k ^^ tb b k) := by unfold tb; rw [ofInt_xorI, b_xor]
theorem tb_0 (k : Nat) : tb 0 k = false := b_0 k
theorem ofN32 (c : Nat) : Int32.ofInt (c : Int) = nI c := Int32.ofInt_eq_ofNat
theorem tb_1 : ∀ k, k < 32 → tb 1 k = decide (k = 0) := by decide +kernel
theorem tb_shl {a : Int} {c k : Nat} (hc : c < 32) (hk : k < 32) : tb (shlI a (c : Int)) k = (decide (c ≤ k) && tb a (k - c)) := by
  unfold tb
  rw [ofInt_shlI, ofN32, b_shl c hc _ hk]
theorem tb_shl1 {c k : Nat} (hc : c < 32) (hk : k < 32) : tb (shlI 1 (c : Int)) k = decide (k = c) := by
  rw [tb_shl hc hk, tb_1 (k - c) (by omega)]
  by_cases h : k = c
  · simp [h]
  · by_cases h2 : c ≤ k
    · simp [h, h2]; omega
    · simp [h, h2]
theorem tb_shr {a : Int} {c k : Nat} (hc : c < 32) (hk : k < 32) : tb (shrI a (c : Int)) k = if c + k < 32 then tb a (c + k) else tb a 31 := by
  unfold tb
  rw [ofInt_shrI, ofN32, b_sshr c hc _ hk]
theorem tb_ext {a b : Int} (ha : in32 a) (hb : in32 b) (h : ∀ k, k < 32 → tb a k = tb b k) : a = b := by
  have := b_ext (x := Int32.ofInt a) (y := Int32.ofInt b) h
  rwa [eq32 ha hb] at this
theorem in32_andI (a b : Int) : in32 (andI a b) := in32_toInt _
theorem in32_orI (a b : Int) : in32 (orI a b) := in32_toInt _
theorem in32_shlI (a b : Int) : in32 (shlI a b) := in32_toInt _
theorem in32_shrI (a b : Int) : in32 (shrI a b) := in32_toInt _
theorem and1 (x : Int) : andI x 1 = if tb x 0 then 1 else 0 := by
  refine tb_ext (in32_andI _ _) (by split <;> (unfold in32; omega)) fun k hk => ?_
  rw [tb_and, tb_1 k hk]
  by_cases h : k = 0
  · subst h
    cases tb x 0 <;> simp [tb_0, tb_1 0 (by omega)]
  · cases tb x 0 <;> simp [tb_0, tb_1 k hk, h]
/-- the test of one bit -/
theorem bitT {s : Int} {c : Nat} (hc : c < 32) : andI (shrI s (c : Int)) 1 = if tb s c then 1 else 0 := by
  rw [and1, tb_shr hc (by omega), if_pos (show c + 0 < 32 by omega), Nat.add_zero]
theorem tb_bset {p : Nat → Bool} {k : Nat} (hk : k < 32) : ∀ {n : Nat}, n ≤ 32 → tb (bset p n) k = (decide (k < n) && p k)
  | 0, _ => by rw [bset_0, tb_0]; simp
  | n + 1, hn => by
    have ih := tb_bset (p := p) hk (n := n) (by omega)
    cases h : p n
    · rw [bset_f h, ih]
      by_cases e : k = n
      · subst e; simp [h]
      · have : (decide (k < n + 1)) = (decide (k < n)) := by simp; omega
        rw [this]
    · rw [bset_t h, tb_or, ih, tb_shl1 (by omega) hk]
      by_cases e : k = n
      · subst e; simp [h]
      · have : (decide (k < n + 1)) = (decide (k < n)) := by simp; omega
        rw [this]; simp [e]
theorem bset_or {p q : Nat → Bool} {n : Nat} (hn : n ≤ 32) : orI (bset p n) (bset q n) = bset (fun c => p c || q c) n :=
  tb_ext (in32_orI _ _) (in32_bset _ _) fun k hk => by rw [tb_or, tb_bset hk hn, tb_bset hk hn, tb_bset hk hn]; cases decide (k < n) <;> simp
theorem bset_and {p q : Nat → Bool} {n : Nat} (hn : n ≤ 32) : andI (bset p n) (bset q n) = bset (fun c => p c && q c) n :=
  tb_ext (in32_andI _ _) (in32_bset _ _) fun k hk => by rw [tb_and, tb_bset hk hn, tb_bset hk hn, tb_bset hk hn]; cases decide (k < n) <;> simp
/-- a sum over those below n of which p holds -/
def sumB (f : Nat → Int) (p : Nat → Bool) : Nat → Int := foldN (fun c a => if p c then a + f c else a) 0
theorem sumB_0 (f : Nat → Int) (p : Nat → Bool) : sumB f p 0 = 0 := rfl
theorem sumB_t {f : Nat → Int} {p : Nat → Bool} {n : Nat} (h : p n = true) : sumB f p (n + 1) = sumB f p n + f n := by simp [sumB, foldN_s, h]
theorem sumB_f {f : Nat → Int} {p : Nat → Bool} {n : Nat} (h : p n = false) : sumB f p (n + 1) = sumB f p n := by simp [sumB, foldN_s, h]
theorem sumB_rng {f : Nat → Int} {p : Nat → Bool} {m : Int} (hm : 0 ≤ m) : ∀ {n : Nat}, (∀ k, k < n → 0 ≤ f k ∧ f k ≤ m) → 0 ≤ sumB f p n ∧ sumB f p n ≤ m * n
  | 0, _ => by rw [sumB_0]; simp
  | n + 1, h => by
    have ih := sumB_rng (p := p) hm (n := n) (fun k hk => h k (by omega))
    have h1 := h n (Nat.lt_succ_self n)
    have e : m * ((n + 1 : Nat) : Int) = m * n + m := by rw [Int.natCast_add, Int.mul_add]; simp
    cases q : p n
    · rw [sumB_f q, e]; omega
    · rw [sumB_t q, e]; omega
def worthOf (w : Nat → Int) (s : Int) : Int := sumB (fun c => w (102 + 7 * c)) (fun c => tb s c) (w 1).toNat
def hungAll (w : Nat → Int) : Int := sumB (fun j => w (80 + 4 * j)) (fun _ => true) (w 0).toNat
/-- a judge's share of what is freed -/
def freedBy (w : Nat → Int) (j : Int) (c : Nat) : Bool := decide (w (104 + 7 * c) = 1) && decide (w (105 + 7 * c) = j)
def shareW (w : Nat → Int) (j : Int) : Int := if cntB (inStP w 1) (w 1).toNat = 0 then 0 else (100 * cntB (freedBy w j) (w 1).toNat : Int) / (cntB (inStP w 1) (w 1).toNat : Int)
/-- those that lean on a case, on and on -/
def leanP (w : Nat → Int) (c : Nat) (acc : Int) (k : Nat) : Bool := decide (c < k) && (decide (0 ≤ w (103 + 7 * k)) && tb acc (w (103 + 7 * k)).toNat)
def leanF (w : Nat → Int) (c : Nat) : Nat → Int := foldN (fun k acc => if leanP w c acc k then orI acc (shlI 1 (k : Int)) else acc) (shlI 1 (c : Int))
def leanOn (w : Nat → Int) (c : Nat) : Int := leanF w c (w 1).toNat
theorem leanF_t {w : Nat → Int} {c n : Nat} (h : leanP w c (leanF w c n) n = true) : leanF w c (n + 1) = orI (leanF w c n) (shlI 1 (n : Int)) := by
  unfold leanF at h ⊢
  rw [foldN_s, if_pos h]
theorem leanF_f {w : Nat → Int} {c n : Nat} (h : leanP w c (leanF w c n) n = false) : leanF w c (n + 1) = leanF w c n := by
  unfold leanF at h ⊢
  rw [foldN_s, if_neg (by rw [h]; decide)]
theorem leanF_c {w : Nat → Int} {c : Nat} : ∀ {n : Nat}, n ≤ c + 1 → leanF w c n = shlI 1 (c : Int)
  | 0, _ => rfl
  | n + 1, h => by
    rw [leanF_f (by simp [leanP]; omega), leanF_c (by omega)]
/-- how many stand one on another -/
def chF (w : Nat → Int) : Nat → Int → Nat
  | 0, _ => 0
  | k + 1, c => if c < 0 then 0 else chF w k (w (103 + 7 * c.toNat)) + 1
/-- what crumbs of a judge would undo -/
def foundP (w : Nat → Int) (c : Nat) : Bool := decide (w (104 + 7 * c) = 1) || decide (w (104 + 7 * c) = 2)
def crumP (w : Nat → Int) (j : Int) (c : Nat) : Bool := foundP w c && (decide (w (105 + 7 * c) = j) && decide (w (106 + 7 * c) = w 5))
def crumF (w : Nat → Int) (j : Int) : Nat → Int := foldN (fun c a => if crumP w j c then orI a (leanOn w c) else a) 0
def crum (w : Nat → Int) (j : Int) : Int := andI (crumF w j (w 1).toNat) (orI (inSt w 1) (inSt w 2))
theorem crumF_t {w : Nat → Int} {j : Int} {n : Nat} (h : crumP w j n = true) : crumF w j (n + 1) = orI (crumF w j n) (leanOn w n) := by simp [crumF, foldN_s, h]
theorem crumF_f {w : Nat → Int} {j : Int} {n : Nat} (h : crumP w j n = false) : crumF w j (n + 1) = crumF w j n := by simp [crumF, foldN_s, h]
theorem tb_found {w : Nat → Int} {c : Nat} (hn : (w 1).toNat ≤ 8) (hc : c < (w 1).toNat) : tb (orI (inSt w 1) (inSt w 2)) c = foundP w c := by
  unfold inSt
  rw [bset_or (by omega), tb_bset (by omega) (by omega)]
  simp [hc, foundP, inStP]
/-- cases in the list, as the class gathers them -/
def listF (w : Nat → Int) : Nat → Int := foldN (fun p a => if 0 ≤ w (20 + p) then orI a (shlI 1 (w (20 + p))) else a) 0
theorem listF_t {w : Nat → Int} {n : Nat} (h : 0 ≤ w (20 + n)) : listF w (n + 1) = orI (listF w n) (shlI 1 (w (20 + n))) := by simp [listF, foldN_s, h]
theorem listF_f {w : Nat → Int} {n : Nat} (h : ¬ 0 ≤ w (20 + n)) : listF w (n + 1) = listF w n := by simp [listF, foldN_s, h]
theorem shareDiv {a b : Nat} (ha : a < 1000) (hb : b < 1000) : wrap (((a : Int) * 100).tdiv (b : Int)) = (100 * a : Int) / (b : Int) := by
  rw [Int.tdiv_eq_ediv_of_nonneg (by omega), Int.mul_comm]
  have h1 : (0 : Int) ≤ 100 * (a : Int) / (b : Int) := Int.ediv_nonneg (by omega) (by omega)
  have h2 : 100 * (a : Int) / (b : Int) ≤ 100 * (a : Int) := Int.ediv_le_self _ (by omega)
  exact wid (by omega) (by omega)
