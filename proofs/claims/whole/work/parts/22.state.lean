/-! THE STATE: shapes of the cells once the constructors are through; the class's towns beside the reference's row w -/
def townG (t : Nat) : List Sh := [(9, 20, [-1, -1, -1, -1, -1, -1, ((t + 1 : Nat) : Int), ((t + 2 : Nat) : Int), ((t + 3 : Nat) : Int), ((t + 4 : Nat) : Int), ((t + 5 : Nat) : Int), ((t + 6 : Nat) : Int), ((t + 7 : Nat) : Int), ((t + 8 : Nat) : Int), ((t + 9 : Nat) : Int), ((t + 10 : Nat) : Int), ((t + 11 : Nat) : Int), ((t + 12 : Nat) : Int), ((t + 13 : Nat) : Int), ((t + 14 : Nat) : Int)]),
  (13, 5, []), (13, 5, []), (13, 5, []), (13, 5, []), (13, 8, []), (13, 8, []), (13, 8, []), (13, 8, []), (13, 8, []), (13, 8, []), (13, 8, []), (13, 60, []), (13, 12, []), (4, 3, [((t + 15 : Nat) : Int), -1, -1]), (13, 360, [])]
def lawG (r : Nat) : List Sh := [(2, 7, [-1, -1, ((r + 1 : Nat) : Int), ((r + 2 : Nat) : Int), ((r + 3 : Nat) : Int), ((r + 4 : Nat) : Int), ((r + 5 : Nat) : Int)]), (13, 12, []), (13, 12, []), (13, 12, []), (13, 400, []), (13, 32, [])]
def TwG (g : Gs) (t : Nat) : Prop := ∀ i, i < 16 → g.1[t + i]? = (townG t)[i]?
def LwG (g : Gs) (r : Nat) : Prop := ∀ i, i < 6 → g.1[r + i]? = (lawG r)[i]?
def CtG (g : Gs) (c t r : Nat) : Prop := g.1[c]? = some (1, 3, [(t : Int), (r : Int), ((c + 1 : Nat) : Int)]) ∧ g.1[c + 1]? = some (13, 10, [])
def StG (g : Gs) (s t c f : Nat) : Prop := g.1[s]? = some (7, 3, [(t : Int), (c : Int), (f : Int)]) ∧ g.1[f]? = some (13, 5, [])
theorem TwG.o {g : Gs} {t : Nat} (h : TwG g t) : g.1[t]? = some (9, 20, [-1, -1, -1, -1, -1, -1, ((t + 1 : Nat) : Int), ((t + 2 : Nat) : Int), ((t + 3 : Nat) : Int), ((t + 4 : Nat) : Int), ((t + 5 : Nat) : Int), ((t + 6 : Nat) : Int), ((t + 7 : Nat) : Int), ((t + 8 : Nat) : Int), ((t + 9 : Nat) : Int), ((t + 10 : Nat) : Int), ((t + 11 : Nat) : Int), ((t + 12 : Nat) : Int), ((t + 13 : Nat) : Int), ((t + 14 : Nat) : Int)]) := h 0 (by decide)
theorem TwG.a1 {g : Gs} {t : Nat} (h : TwG g t) : g.1[t + 1]? = some (13, 5, []) := h 1 (by decide)
theorem TwG.a2 {g : Gs} {t : Nat} (h : TwG g t) : g.1[t + 2]? = some (13, 5, []) := h 2 (by decide)
theorem TwG.a3 {g : Gs} {t : Nat} (h : TwG g t) : g.1[t + 3]? = some (13, 5, []) := h 3 (by decide)
theorem TwG.a4 {g : Gs} {t : Nat} (h : TwG g t) : g.1[t + 4]? = some (13, 5, []) := h 4 (by decide)
theorem TwG.a5 {g : Gs} {t : Nat} (h : TwG g t) : g.1[t + 5]? = some (13, 8, []) := h 5 (by decide)
theorem TwG.a6 {g : Gs} {t : Nat} (h : TwG g t) : g.1[t + 6]? = some (13, 8, []) := h 6 (by decide)
theorem TwG.a7 {g : Gs} {t : Nat} (h : TwG g t) : g.1[t + 7]? = some (13, 8, []) := h 7 (by decide)
theorem TwG.a8 {g : Gs} {t : Nat} (h : TwG g t) : g.1[t + 8]? = some (13, 8, []) := h 8 (by decide)
theorem TwG.a9 {g : Gs} {t : Nat} (h : TwG g t) : g.1[t + 9]? = some (13, 8, []) := h 9 (by decide)
theorem TwG.a10 {g : Gs} {t : Nat} (h : TwG g t) : g.1[t + 10]? = some (13, 8, []) := h 10 (by decide)
theorem TwG.a11 {g : Gs} {t : Nat} (h : TwG g t) : g.1[t + 11]? = some (13, 8, []) := h 11 (by decide)
theorem TwG.a12 {g : Gs} {t : Nat} (h : TwG g t) : g.1[t + 12]? = some (13, 60, []) := h 12 (by decide)
theorem TwG.a13 {g : Gs} {t : Nat} (h : TwG g t) : g.1[t + 13]? = some (13, 12, []) := h 13 (by decide)
theorem TwG.a14 {g : Gs} {t : Nat} (h : TwG g t) : g.1[t + 14]? = some (4, 3, [((t + 15 : Nat) : Int), -1, -1]) := h 14 (by decide)
theorem TwG.a15 {g : Gs} {t : Nat} (h : TwG g t) : g.1[t + 15]? = some (13, 360, []) := h 15 (by decide)
theorem LwG.o {g : Gs} {r : Nat} (h : LwG g r) : g.1[r]? = some (2, 7, [-1, -1, ((r + 1 : Nat) : Int), ((r + 2 : Nat) : Int), ((r + 3 : Nat) : Int), ((r + 4 : Nat) : Int), ((r + 5 : Nat) : Int)]) := h 0 (by decide)
theorem LwG.a1 {g : Gs} {r : Nat} (h : LwG g r) : g.1[r + 1]? = some (13, 12, []) := h 1 (by decide)
theorem LwG.a2 {g : Gs} {r : Nat} (h : LwG g r) : g.1[r + 2]? = some (13, 12, []) := h 2 (by decide)
theorem LwG.a3 {g : Gs} {r : Nat} (h : LwG g r) : g.1[r + 3]? = some (13, 12, []) := h 3 (by decide)
theorem LwG.a4 {g : Gs} {r : Nat} (h : LwG g r) : g.1[r + 4]? = some (13, 400, []) := h 4 (by decide)
theorem LwG.a5 {g : Gs} {r : Nat} (h : LwG g r) : g.1[r + 5]? = some (13, 32, []) := h 5 (by decide)
/-- the world's row in bounds -/
def WF (w : Nat → Int) : Prop := (0 ≤ w 0 ∧ w 0 ≤ 5) ∧ (0 ≤ w 1 ∧ w 1 ≤ 8) ∧ (0 ≤ w 2 ∧ w 2 ≤ 12) ∧ (w 3 = 0 ∨ w 3 = 1) ∧ (0 ≤ w 4 ∧ w 4 < 12) ∧ (0 ≤ w 5 ∧ w 5 ≤ 9999) ∧ (0 ≤ w 6 ∧ w 6 ≤ 60) ∧ in32 (w 7) ∧
  (∀ k, k < 12 → 0 ≤ w (8 + k) ∧ w (8 + k) ≤ 100) ∧
  (∀ p, p < 60 → w (20 + p) = -1 ∨ (0 ≤ w (20 + p) ∧ w (20 + p) < w 1)) ∧
  (∀ p q, p < 60 → q < 60 → w (20 + p) = w (20 + q) → w (20 + p) ≠ -1 → p = q) ∧
  (∀ p : Nat, p < 60 → 12 * w 0 ≤ p → w (20 + p) = -1) ∧
  (∀ j, j < 5 → (0 ≤ w (80 + 4 * j) ∧ w (80 + 4 * j) ≤ 99) ∧ (0 ≤ w (81 + 4 * j) ∧ w (81 + 4 * j) ≤ 99) ∧ (0 ≤ w (82 + 4 * j) ∧ w (82 + 4 * j) ≤ 9) ∧ (0 ≤ w (83 + 4 * j) ∧ w (83 + 4 * j) ≤ 99)) ∧
  (∀ c, c < 8 → (0 ≤ w (100 + 7 * c) ∧ w (100 + 7 * c) ≤ 5) ∧ (0 ≤ w (101 + 7 * c) ∧ w (101 + 7 * c) ≤ 99) ∧ (0 ≤ w (102 + 7 * c) ∧ w (102 + 7 * c) ≤ 99) ∧ (-1 ≤ w (103 + 7 * c) ∧ w (103 + 7 * c) < 8) ∧ (0 ≤ w (104 + 7 * c) ∧ w (104 + 7 * c) ≤ 3) ∧ (-1 ≤ w (105 + 7 * c) ∧ w (105 + 7 * c) ≤ 4) ∧ (-1 ≤ w (106 + 7 * c) ∧ w (106 + 7 * c) ≤ 9999)) ∧
  (∀ c : Nat, (c : Int) < w 1 → w (103 + 7 * c) < c) ∧ (∀ c : Nat, c < 8 → w 1 ≤ c → w (104 + 7 * c) = 0) ∧
  (∀ r i, r < 60 → i < 6 → in32 (w (156 + 6 * r + i)))
theorem WF.jud {w : Nat → Int} (h : WF w) : 0 ≤ w 0 ∧ w 0 ≤ 5 := h.1
theorem WF.cas {w : Nat → Int} (h : WF w) : 0 ≤ w 1 ∧ w 1 ≤ 8 := h.2.1
theorem WF.tex {w : Nat → Int} (h : WF w) : 0 ≤ w 2 ∧ w 2 ≤ 12 := h.2.2.1
theorem WF.law {w : Nat → Int} (h : WF w) : w 3 = 0 ∨ w 3 = 1 := h.2.2.2.1
theorem WF.hou {w : Nat → Int} (h : WF w) : 0 ≤ w 4 ∧ w 4 < 12 := h.2.2.2.2.1
theorem WF.day {w : Nat → Int} (h : WF w) : 0 ≤ w 5 ∧ w 5 ≤ 9999 := h.2.2.2.2.2.1
theorem WF.log {w : Nat → Int} (h : WF w) : 0 ≤ w 6 ∧ w 6 ≤ 60 := h.2.2.2.2.2.2.1
theorem WF.see {w : Nat → Int} (h : WF w) : in32 (w 7) := h.2.2.2.2.2.2.2.1
theorem WF.inn {w : Nat → Int} (h : WF w) : ∀ k, k < 12 → 0 ≤ w (8 + k) ∧ w (8 + k) ≤ 100 := h.2.2.2.2.2.2.2.2.1
theorem WF.pla {w : Nat → Int} (h : WF w) : ∀ p, p < 60 → w (20 + p) = -1 ∨ (0 ≤ w (20 + p) ∧ w (20 + p) < w 1) := h.2.2.2.2.2.2.2.2.2.1
theorem WF.one {w : Nat → Int} (h : WF w) : ∀ p q, p < 60 → q < 60 → w (20 + p) = w (20 + q) → w (20 + p) ≠ -1 → p = q := h.2.2.2.2.2.2.2.2.2.2.1
theorem WF.out {w : Nat → Int} (h : WF w) : ∀ p : Nat, p < 60 → 12 * w 0 ≤ p → w (20 + p) = -1 := h.2.2.2.2.2.2.2.2.2.2.2.1
theorem WF.jof {w : Nat → Int} (h : WF w) : ∀ j, j < 5 → (0 ≤ w (80 + 4 * j) ∧ w (80 + 4 * j) ≤ 99) ∧ (0 ≤ w (81 + 4 * j) ∧ w (81 + 4 * j) ≤ 99) ∧ (0 ≤ w (82 + 4 * j) ∧ w (82 + 4 * j) ≤ 9) ∧ (0 ≤ w (83 + 4 * j) ∧ w (83 + 4 * j) ≤ 99) := h.2.2.2.2.2.2.2.2.2.2.2.2.1
theorem WF.cof {w : Nat → Int} (h : WF w) : ∀ c, c < 8 → (0 ≤ w (100 + 7 * c) ∧ w (100 + 7 * c) ≤ 5) ∧ (0 ≤ w (101 + 7 * c) ∧ w (101 + 7 * c) ≤ 99) ∧ (0 ≤ w (102 + 7 * c) ∧ w (102 + 7 * c) ≤ 99) ∧ (-1 ≤ w (103 + 7 * c) ∧ w (103 + 7 * c) < 8) ∧ (0 ≤ w (104 + 7 * c) ∧ w (104 + 7 * c) ≤ 3) ∧ (-1 ≤ w (105 + 7 * c) ∧ w (105 + 7 * c) ≤ 4) ∧ (-1 ≤ w (106 + 7 * c) ∧ w (106 + 7 * c) ≤ 9999) := h.2.2.2.2.2.2.2.2.2.2.2.2.2.1
theorem WF.lea {w : Nat → Int} (h : WF w) : ∀ c : Nat, (c : Int) < w 1 → w (103 + 7 * c) < c := h.2.2.2.2.2.2.2.2.2.2.2.2.2.2.1
theorem WF.wai {w : Nat → Int} (h : WF w) : ∀ c : Nat, c < 8 → w 1 ≤ c → w (104 + 7 * c) = 0 := h.2.2.2.2.2.2.2.2.2.2.2.2.2.2.2.1
theorem WF.row {w : Nat → Int} (h : WF w) : ∀ r i, r < 60 → i < 6 → in32 (w (156 + 6 * r + i)) := h.2.2.2.2.2.2.2.2.2.2.2.2.2.2.2.2
/-- the town at t is what the row w tells (the law's text apart) -/
def Tw (h : Hc) (t : Nat) (w : Nat → Int) : Prop := (h t 0 = w 0 ∧ h t 1 = w 1 ∧ h t 2 = w 2 ∧ h t 3 = w 4 ∧ h t 4 = w 5 ∧ h t 5 = w 7) ∧
  (∀ j, j < 5 → h (t + 1) j = w (80 + 4 * j) ∧ h (t + 2) j = w (81 + 4 * j) ∧ h (t + 3) j = w (82 + 4 * j) ∧ h (t + 4) j = w (83 + 4 * j)) ∧
  (∀ c, c < 8 → h (t + 5) c = w (100 + 7 * c) ∧ h (t + 6) c = w (101 + 7 * c) ∧ h (t + 7) c = w (102 + 7 * c) ∧ h (t + 9) c = w (104 + 7 * c)) ∧
  (∀ c : Nat, (c : Int) < w 1 → h (t + 8) c = w (103 + 7 * c) ∧ h (t + 10) c = w (105 + 7 * c) ∧ h (t + 11) c = w (106 + 7 * c)) ∧
  (∀ c : Nat, c < 8 → w 1 ≤ c → h (t + 10) c = -1 ∧ h (t + 11) c = -1) ∧
  (∀ p, p < 60 → h (t + 12) p = w (20 + p)) ∧ (∀ k, k < 12 → h (t + 13) k = w (8 + k)) ∧
  (h (t + 14) 2 = w 6 ∧ (0 ≤ h (t + 14) 1 ∧ h (t + 14) 1 < 60) ∧ ∀ ago i : Nat, (ago : Int) < w 6 → i < 6 → h (t + 15) (((h (t + 14) 1 + w 6 - 1 - ago) % 60).toNat * 6 + i) = w (156 + 6 * ago + i))
theorem Tw.s0 {h : Hc} {t : Nat} {w : Nat → Int} (q : Tw h t w) : h t 0 = w 0 := q.1.1
theorem Tw.s1 {h : Hc} {t : Nat} {w : Nat → Int} (q : Tw h t w) : h t 1 = w 1 := q.1.2.1
theorem Tw.s2 {h : Hc} {t : Nat} {w : Nat → Int} (q : Tw h t w) : h t 2 = w 2 := q.1.2.2.1
theorem Tw.s3 {h : Hc} {t : Nat} {w : Nat → Int} (q : Tw h t w) : h t 3 = w 4 := q.1.2.2.2.1
theorem Tw.s4 {h : Hc} {t : Nat} {w : Nat → Int} (q : Tw h t w) : h t 4 = w 5 := q.1.2.2.2.2.1
theorem Tw.s5 {h : Hc} {t : Nat} {w : Nat → Int} (q : Tw h t w) : h t 5 = w 7 := q.1.2.2.2.2.2
theorem Tw.a1 {h : Hc} {t : Nat} {w : Nat → Int} (q : Tw h t w) {j : Nat} (hj : j < 5) : h (t + 1) j = w (80 + 4 * j) := (q.2.1 j hj).1
theorem Tw.a2 {h : Hc} {t : Nat} {w : Nat → Int} (q : Tw h t w) {j : Nat} (hj : j < 5) : h (t + 2) j = w (81 + 4 * j) := (q.2.1 j hj).2.1
theorem Tw.a3 {h : Hc} {t : Nat} {w : Nat → Int} (q : Tw h t w) {j : Nat} (hj : j < 5) : h (t + 3) j = w (82 + 4 * j) := (q.2.1 j hj).2.2.1
theorem Tw.a4 {h : Hc} {t : Nat} {w : Nat → Int} (q : Tw h t w) {j : Nat} (hj : j < 5) : h (t + 4) j = w (83 + 4 * j) := (q.2.1 j hj).2.2.2
theorem Tw.a5 {h : Hc} {t : Nat} {w : Nat → Int} (q : Tw h t w) {c : Nat} (hc : c < 8) : h (t + 5) c = w (100 + 7 * c) := (q.2.2.1 c hc).1
theorem Tw.a6 {h : Hc} {t : Nat} {w : Nat → Int} (q : Tw h t w) {c : Nat} (hc : c < 8) : h (t + 6) c = w (101 + 7 * c) := (q.2.2.1 c hc).2.1
theorem Tw.a7 {h : Hc} {t : Nat} {w : Nat → Int} (q : Tw h t w) {c : Nat} (hc : c < 8) : h (t + 7) c = w (102 + 7 * c) := (q.2.2.1 c hc).2.2.1
theorem Tw.a9 {h : Hc} {t : Nat} {w : Nat → Int} (q : Tw h t w) {c : Nat} (hc : c < 8) : h (t + 9) c = w (104 + 7 * c) := (q.2.2.1 c hc).2.2.2
theorem Tw.a8 {h : Hc} {t : Nat} {w : Nat → Int} (q : Tw h t w) {c : Nat} (hc : (c : Int) < w 1) : h (t + 8) c = w (103 + 7 * c) := (q.2.2.2.1 c hc).1
theorem Tw.a10 {h : Hc} {t : Nat} {w : Nat → Int} (q : Tw h t w) {c : Nat} (hc : (c : Int) < w 1) : h (t + 10) c = w (105 + 7 * c) := (q.2.2.2.1 c hc).2.1
theorem Tw.a11 {h : Hc} {t : Nat} {w : Nat → Int} (q : Tw h t w) {c : Nat} (hc : (c : Int) < w 1) : h (t + 11) c = w (106 + 7 * c) := (q.2.2.2.1 c hc).2.2
theorem Tw.b {h : Hc} {t : Nat} {w : Nat → Int} (q : Tw h t w) {c : Nat} (hc : c < 8) (hc2 : w 1 ≤ c) : h (t + 10) c = -1 ∧ h (t + 11) c = -1 := q.2.2.2.2.1 c hc hc2
theorem Tw.a12 {h : Hc} {t : Nat} {w : Nat → Int} (q : Tw h t w) {p : Nat} (hp : p < 60) : h (t + 12) p = w (20 + p) := q.2.2.2.2.2.1 p hp
theorem Tw.a13 {h : Hc} {t : Nat} {w : Nat → Int} (q : Tw h t w) {k : Nat} (hk : k < 12) : h (t + 13) k = w (8 + k) := q.2.2.2.2.2.2.1 k hk
theorem Tw.size {h : Hc} {t : Nat} {w : Nat → Int} (q : Tw h t w) : h (t + 14) 2 = w 6 := q.2.2.2.2.2.2.2.1
theorem Tw.first {h : Hc} {t : Nat} {w : Nat → Int} (q : Tw h t w) : 0 ≤ h (t + 14) 1 ∧ h (t + 14) 1 < 60 := q.2.2.2.2.2.2.2.2.1
theorem Tw.rows {h : Hc} {t : Nat} {w : Nat → Int} (q : Tw h t w) : ∀ ago i : Nat, (ago : Int) < w 6 → i < 6 → h (t + 15) (((h (t + 14) 1 + w 6 - 1 - ago) % 60).toNat * 6 + i) = w (156 + 6 * ago + i) := q.2.2.2.2.2.2.2.2.2
/-- cells outside a set are as they were -/
def Off (S : Nat → Prop) (h h' : Hc) : Prop := ∀ a, ¬ S a → h' a = h a
theorem Off.rf (S : Nat → Prop) (h : Hc) : Off S h h := fun _ _ => rfl
theorem Off.tr {S : Nat → Prop} {h1 h2 h3 : Hc} (a : Off S h1 h2) (b : Off S h2 h3) : Off S h1 h3 := fun q hq => (b q hq).trans (a q hq)
theorem Off.mono {S T : Nat → Prop} {h1 h2 : Hc} (a : Off S h1 h2) (hs : ∀ q, S q → T q) : Off T h1 h2 := fun q hq => a q (fun hs' => hq (hs q hs'))
theorem Off.upd {S : Nat → Prop} {h1 h2 : Hc} (a : Off S h1 h2) {b i : Nat} {v : Int} (hb : S b) : Off S h1 (updH h2 b i v) := by
  intro q hq
  have e : q ≠ b := fun e => hq (e ▸ hb)
  show (if q = b then _ else h2 q) = _
  rw [if_neg e]
  exact a q hq
theorem Off.set {S : Nat → Prop} {h1 h2 : Hc} (a : Off S h1 h2) {b : Nat} {f : Nat → Int} (hb : S b) : Off S h1 (setH h2 b f) := by
  intro q hq
  have e : q ≠ b := fun e => hq (e ▸ hb)
  show (if q = b then _ else h2 q) = _
  rw [if_neg e]
  exact a q hq
/-- a town doesn't change where nothing of it is written -/
theorem Tw.off {S : Nat → Prop} {h h' : Hc} {t : Nat} {w : Nat → Int} (q : Tw h t w) (o : Off S h h') (hs : ∀ i, i < 16 → ¬ S (t + i)) : Tw h' t w := by
  have e : ∀ i, i < 16 → h' (t + i) = h (t + i) := fun i hi => o _ (hs i hi)
  unfold Tw
  rw [show h' t = h t from e 0 (by omega), e 1 (by omega), e 2 (by omega), e 3 (by omega), e 4 (by omega), e 5 (by omega), e 6 (by omega), e 7 (by omega), e 8 (by omega), e 9 (by omega), e 10 (by omega), e 11 (by omega), e 12 (by omega), e 13 (by omega), e 14 (by omega), e 15 (by omega)]
  exact q
theorem updH_s (h : Hc) (a i : Nat) (v : Int) : updH h a i v a i = v := by simp [updH]
theorem updH_i {h : Hc} {a i j : Nat} {v : Int} (e : j ≠ i) : updH h a i v a j = h a j := by simp [updH, e]
theorem updH_a {h : Hc} {a b i : Nat} {v : Int} (e : b ≠ a) : updH h a i v b = h b := by simp [updH, e]
theorem setH_s (h : Hc) (a : Nat) (f : Nat → Int) : setH h a f a = f := by simp [setH]
theorem setH_a {h : Hc} {a b : Nat} {f : Nat → Int} (e : b ≠ a) : setH h a f b = h b := by simp [setH, e]
