/-! LEVEL 1: the machine over an abstract heap. Values: (0, a) the int a, (1, a) the long a, (2, r) a reference: r at least 0 the own cell r, -1 null, below it an outer cell; (3, _) not known -/
abbrev AV : Type := Nat × Int
abbrev vI (a : Int) : AV := (0, a)
abbrev vL (a : Int) : AV := (1, a)
abbrev vR (a : Nat) : AV := (2, (a : Int))
abbrev vN : AV := (2, -1)
abbrev vX (k : Nat) : AV := (2, -2 - (k : Int))
abbrev vU : AV := (3, 0)
/-- a cell's shape: its kind (below 12 the class of that number in vwCl; 12 byte[], 13 int[], 14 long[], 15 boolean[], 16 Town[]), how many slots, its references -/
abbrev Sh : Type := Nat × Nat × List Int
/-- the cells' shapes; 0 while the constructors run; the script's length and ints -/
abbrev Gs : Type := List Sh × Nat × Nat × (Nat → Int)
abbrev Hc : Type := Nat → Nat → Int
/-- the world: the first own address, the classes' numbers and slots, the array classes, the outer addresses, those of the texts' bytes, the script's length and ints -/
abbrev Zw : Type := Nat × va_G × (Nat → ClassId) × (Nat → Nat) × (Nat → Nat) × Nat × (Nat → Int)
abbrev zb (z : Zw) : Nat := z.1
abbrev zD (z : Zw) : va_G := z.2.1
abbrev zA (z : Zw) : Nat → ClassId := z.2.2.1
abbrev zX (z : Zw) : Nat → Nat := z.2.2.2.1
abbrev zV (z : Zw) : Nat → Nat := z.2.2.2.2.1
abbrev zL (z : Zw) : Nat := z.2.2.2.2.2.1
abbrev zS (z : Zw) : Nat → Int := z.2.2.2.2.2.2
/-- the own cells -/
def zR (z : Zw) : Nat → Prop := fun q => zb z ≤ q
def rfO (z : Zw) (a : Int) : Option Nat := if 0 ≤ a then some (zb z + a.toNat) else if a = -1 then none else some (zX z (-2 - a).toNat)
def enc (z : Zw) (v : AV) : Value := match v.1 with
  | 0 => .int (Int32.ofInt v.2)
  | 1 => .long (Int64.ofInt v.2)
  | 2 => va_rf (rfO z v.2)
  | _ => .null
/-- which fields of a class hold references -/
def fkT : List (List Nat) := [[1, 0, 1], [1, 1, 1], [0, 0, 1, 1, 1, 1, 1], [1, 0, 1], [1, 0, 0], [1, 1, 1, 1, 1, 1, 1, 0], [1, 0, 0], [1, 1, 1], [1, 1, 1, 0, 0, 0], [0, 0, 0, 0, 0, 0, 1, 1, 1, 1, 1, 1, 1, 1, 1, 1, 1, 1, 1, 1], [1, 1, 1, 1, 1, 1, 1, 1, 1, 1, 1, 1, 1, 1, 0, 0], [0, 1, 1, 1, 1, 1, 0, 0, 1, 0, 0, 0, 0, 0, 0, 1, 0, 1, 0, 0, 0, 1, 1, 1, 1, 1, 1, 1, 1, 1, 1]]
def fkR (k j : Nat) : Bool := ((fkT.getD k []).getD j 0) == 1
def encF (z : Zw) (k : Nat) (rs : List Int) (f : Nat → Int) (j : Nat) : Value := if fkR k j then va_rf (rfO z (rs.getD j (-1))) else .int (Int32.ofInt (f j))
def encC (z : Zw) (f : Nat → Int) (c : Sh) : va_E :=
  if c.1 < 12 then .inr (c.1, (List.range c.2.1).map (encF z c.1 c.2.2 f))
  else if c.1 = 14 then .inl (zA z 2, c.2.1, .inr (.inl (fun i => Int64.ofInt (f i))))
  else if c.1 = 16 then .inl (zA z 4, c.2.1, .inr (.inr (.inr (.inr (fun i => rfO z (c.2.2.getD i (-1)))))))
  else .inl (zA z (c.1 - 12), c.2.1, .inl (fun i => Int32.ofInt (f i)))
def wsO (z : Zw) (g : List Sh) (h : Hc) : va_W := (List.range g.length).map (fun k => (zb z + k, encC z (h k) (g.getD k (0, 0, []))))
def okC (c : Sh) (f : Nat → Int) : Prop := ∀ j, if c.1 = 14 then in64 (f j) else in32 (f j)
def okH (g : List Sh) (h : Hc) : Prop := ∀ k c, g[k]? = some c → okC c (h k)
def okA (v : AV) : Prop := (v.1 = 0 → in32 v.2) ∧ (v.1 = 1 → in64 v.2)
def okV (l : List AV) : Prop := ∀ v ∈ l, okA v
def Rep (z : Zw) (g : Gs) (h : Hc) (H : Heap) : Prop := va_P (zD z) vwCl (wsO z g.1 h) H ∧ okH g.1 h ∧ g.2.2 = (zL z, zS z)
/-- .. and, while the constructors run (g.2.1 = 0), nothing else lies behind it -/
def RepX (z : Zw) (g : Gs) (h : Hc) (H : Heap) : Prop := Rep z g h H ∧ (g.2.1 = 0 → H.size = zb z + g.1.length)
def tyO (z : Zw) : List (ClassId × FieldType) := [(zA z 0, .byte), (zA z 1, .int), (zA z 2, .long), (zA z 3, .boolean), (zA z 4, .object "HungryBench$Town")]
def KT (z : Zw) (U : State) : Prop := va_K (zD z) vwCl (tyO z) U
/-- the text constants: class, place in its pool, text, bytes -/
def sT : List (String × Nat × String) := [("HungryBench$Tape", 55, "judge hunger nerve kind grave worth hour leaning precedent late mercy pay case list inn day on move harden crumb if or and not a b c d e f "), ("HungryBenchModel", 148, "mercy"), ("HungryBenchModel", 154, "nerve"), ("HungryBenchModel", 156, "hunger"), ("HungryBenchModel", 161, "pay"), ("HungryBenchModel", 166, "grave"), ("HungryBenchModel", 168, "worth"), ("HungryBenchModel", 170, "on"), ("HungryBenchModel", 175, "judge"), ("HungryBenchModel", 181, "case"), ("HungryBenchModel", 186, "list"), ("HungryBenchModel", 191, "inn"), ("HungryBenchModel", 196, "hour"), ("HungryBenchModel", 198, "day"), ("HungryBenchModel", 203, "kind"), ("HungryBenchModel", 219, "leaning"), ("HungryBenchModel", 221, "precedent"), ("HungryBenchModel", 223, "late"), ("HungryBenchModel", 231, "not"), ("HungryBenchModel", 242, "and"), ("HungryBenchModel", 247, "or"), ("HungryBenchModel", 249, "move"), ("HungryBenchModel", 251, "harden"), ("HungryBenchModel", 253, "crumb"), ("HungryBenchModel", 255, "if")]
def sB : List (List Int) := [[106, 117, 100, 103, 101, 32, 104, 117, 110, 103, 101, 114, 32, 110, 101, 114, 118, 101, 32, 107, 105, 110, 100, 32, 103, 114, 97, 118, 101, 32, 119, 111, 114, 116, 104, 32, 104, 111, 117, 114, 32, 108, 101, 97, 110, 105, 110, 103, 32, 112, 114, 101, 99, 101, 100, 101, 110, 116, 32, 108, 97, 116, 101, 32, 109, 101, 114, 99, 121, 32, 112, 97, 121, 32, 99, 97, 115, 101, 32, 108, 105, 115, 116, 32, 105, 110, 110, 32, 100, 97, 121, 32, 111, 110, 32, 109, 111, 118, 101, 32, 104, 97, 114, 100, 101, 110, 32, 99, 114, 117, 109, 98, 32, 105, 102, 32, 111, 114, 32, 97, 110, 100, 32, 110, 111, 116, 32, 97, 32, 98, 32, 99, 32, 100, 32, 101, 32, 102, 32], [109, 101, 114, 99, 121], [110, 101, 114, 118, 101], [104, 117, 110, 103, 101, 114], [112, 97, 121], [103, 114, 97, 118, 101], [119, 111, 114, 116, 104], [111, 110], [106, 117, 100, 103, 101], [99, 97, 115, 101], [108, 105, 115, 116], [105, 110, 110], [104, 111, 117, 114], [100, 97, 121], [107, 105, 110, 100], [108, 101, 97, 110, 105, 110, 103], [112, 114, 101, 99, 101, 100, 101, 110, 116], [108, 97, 116, 101], [110, 111, 116], [97, 110, 100], [111, 114], [109, 111, 118, 101], [104, 97, 114, 100, 101, 110], [99, 114, 117, 109, 98], [105, 102]]
/-- exceptions that aren't of a class -/
def ncT : List (String × String) := [("java/util/NoSuchElementException", "java/lang/IndexOutOfBoundsException"), ("java/lang/IllegalStateException", "java/lang/IndexOutOfBoundsException"), ("java/lang/IllegalStateException", "java/lang/IllegalArgumentException"), ("java/lang/IllegalArgumentException", "java/lang/IndexOutOfBoundsException"), ("java/lang/UnsupportedOperationException", "java/lang/IllegalArgumentException")]
def Ext (z : Zw) (U : State) (H : Heap) : Prop :=
  (va_X (zX z 0) (zL z) (fun i => Int32.ofInt (zS z i)) U H ∧ zX z 0 < zb z ∧ zL z ≤ 3072 ∧ ∀ i, in32 (zS z i)) ∧
  (∀ i t, sT[i]? = some t → vk_R t.1 t.2.1 t.2.2 (zX z (i + 1)) U) ∧
  vk_S 25 (sB.map List.length) (sB.map (fun l => l.map Int32.ofInt)) (fun i => zX z (i + 1)) (fun i => zX z (i + 26)) (zR z) U H ∧
  va_Z "java/lang/String" "COMPACT_STRINGS" "Z" (.int 1) (zR z) U H ∧
  (va_Z "jdk/internal/util/Preconditions" "SIOOBE_FORMATTER" "Ljava/util/function/BiFunction;" .null (zR z) U H ∨ va_Z "jdk/internal/util/Preconditions" "SIOOBE_FORMATTER" "Ljava/util/function/BiFunction;" (.ref (zX z 51)) (zR z) U H) ∧
  vx_Zq Bundle.tN "UNASSIGNED_STACK" Bundle.steD (zR z) U H ∧ vx_Zq Bundle.tN "SUPPRESSED_SENTINEL" Bundle.listD (zR z) U H ∧ (∀ q ∈ ncT, va_Nc q.1 q.2 U)
/-- words that stay as the tables warm -/
def gw (w : Cond) : Bool := goodWord w || (match w with
  | .castable .. => true
  | .privateMethod _ => true
  | .declares _ => true
  | .methodLinkNest .. => true
  | .arrayOver (.object _) => true
  | _ => false)
def Tb (U : State) : Prop := ∀ w ∈ lw_tbl, gw w = true → w.before #[] U = true
/-- a method: its class, code, locals, what it returns, its name, its table of handlers -/
abbrev Mth : Type := String × ByteArray × Nat × Option FieldType × MethodName × List (Nat × Nat × Nat × Nat)
abbrev mC (y : Mth) : String := y.1
abbrev mB (y : Mth) : ByteArray := y.2.1
abbrev mL (y : Mth) : Nat := y.2.2.1
abbrev mR (y : Mth) : Option FieldType := y.2.2.2.1
abbrev mN (y : Mth) : MethodName := y.2.2.2.2.1
abbrev mH (y : Mth) : List (Nat × Nat × Nat × Nat) := y.2.2.2.2.2
abbrev Ou : Type := Option AV ⊕ String
abbrev Po : Type := Ou → Gs → Hc → Prop
