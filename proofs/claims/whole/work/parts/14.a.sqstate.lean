/-! The class: its object at x, with all that it owns behind it. -/
def sqO (x : Nat) (w sl la sp rm ln mA mB lt pr tl tk : Int32) : jE := .inr (4, [.ref (x + 1), .ref (x + 5), .ref (x + 9), .ref (x + 11), .int w, .int sl, .int la, .int sp, .int rm, .int ln, .int mA, .int mB, .int lt, .int pr, .int tl, .int tk])
/-- Java's floorDiv, as its code has it -/
def fd (x y : Int32) : Int32 := if 0 ≤ x ^^^ y then x / y else if x / y * y = x then x / y else x / y - 1
def okT (t : Int32) : Prop := -1000000000 ≤ t ∧ t ≤ 1000000000
def okW (w sl : Int32) : Prop := (1 ≤ w ∧ w ≤ 1000000) ∧ (1 ≤ sl ∧ sl ≤ w) ∧ w ≤ 16 * sl
def okS (w sl la sp rm ln : Int32) : Prop := okW w sl ∧ (0 ≤ la ∧ la ≤ 1000000) ∧ (0 ≤ sp ∧ sp ≤ 1000000) ∧ (1 ≤ rm ∧ rm ≤ 200) ∧ (1 ≤ ln ∧ ln ≤ 400)
theorem okT_dec (t : Int32) : okT t ∨ ¬ okT t := Classical.em _
def mn (a b : Int32) : Int32 := if b < a then b else a
theorem zo_ne {q : Prop} [Decidable q] : ¬ (if q then (1 : Int32) else 0) = 0 ↔ q := by
  by_cases h : q
  · simp [h]
  · simp [h]
theorem zo_eq {q : Prop} [Decidable q] : (if q then (1 : Int32) else 0) = 0 ↔ ¬ q := by
  by_cases h : q
  · simp [h]
  · simp [h]
theorem zo_1 {q : Prop} [Decidable q] (h : q) : (if q then (1 : Int32) else 0) = 1 := if_pos h
theorem zo_0 {q : Prop} [Decidable q] (h : ¬ q) : (if q then (1 : Int32) else 0) = 0 := if_neg h
/-- the whole class: settings, marks, counts, events, groups, queue; the groups' nodes lie at nb and above -/
def SQ (M : jM) (x nb : Nat) (w sl la sp rm ln mA mB lt pr tl tk : Int32) (A B : List Ev) (cs : List Nd) (qu : List Rec) : Prop :=
  M x = some (sqO x w sl la sp rm ln mA mB lt pr tl tk) ∧ EvAt M (x + 1) A ∧ EvAt M (x + 5) B ∧ GrAt M (x + 9) cs ∧ LnAt M (x + 11) qu ∧ (cs.map Prod.fst).Nodup ∧ (∀ z ∈ cs, nb ≤ z.1) ∧ x + 13 ≤ nb
/-- what count answers -/
def cntv (v a b c d e f g h i : Int32) : Int32 := if v = 0 then a else if v = 1 then b else if v = 2 then c else if v = 3 then d else if v = 4 then e else if v = 5 then f else if v = 6 then g else if v = 7 then h else if v = 8 then i else -2
