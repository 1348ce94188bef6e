/-! Longs by their integers; the reference's pictures. -/
def lI (z : Int) : Int64 := Int64.ofInt z
theorem lI_add (a b : Int) : lI a + lI b = lI (a + b) := (Int64.ofInt_add a b).symm
theorem lI_sub (a b : Int) : lI a - lI b = lI (a - b) := (Int64.ofInt_sub a b).symm
theorem lI_mul (a b : Int) : lI a * lI b = lI (a * b) := (Int64.ofInt_mul a b).symm
theorem lI_neg (a : Int) : -lI a = lI (-a) := (Int64.ofInt_neg a).symm
theorem lI_toInt {z : Int} (h1 : -9223372036854775808 ≤ z) (h2 : z < 9223372036854775808) : (lI z).toInt = z := by
  unfold lI
  rw [Int64.toInt_ofInt]
  show z.bmod 18446744073709551616 = z
  exact Int.bmod_eq_of_le (by omega) (by omega)
theorem l_of (x : Int32) : x.toInt64 = lI x.toInt := by
  have h := i_rng x
  rw [← Int64.toInt_inj, Int32.toInt_toInt64, lI_toInt (by omega) (by omega)]
theorem l_nI {j : Nat} (h : j < 2 ^ 31) : (nI j).toInt64 = lI (j : Int) := by rw [l_of, nI_toInt h]
def bigI (z : Int) : Prop := -1000000000000 ≤ z ∧ z ≤ 1000000000000
theorem lI_le {a b : Int} (ha : bigI a) (hb : bigI b) : lI a ≤ lI b ↔ a ≤ b := by
  obtain ⟨a1, a2⟩ := ha
  obtain ⟨b1, b2⟩ := hb
  rw [Int64.le_iff_toInt_le, lI_toInt (by omega) (by omega), lI_toInt (by omega) (by omega)]
theorem lI_lt {a b : Int} (ha : bigI a) (hb : bigI b) : lI a < lI b ↔ a < b := by
  obtain ⟨a1, a2⟩ := ha
  obtain ⟨b1, b2⟩ := hb
  rw [Int64.lt_iff_toInt_lt, lI_toInt (by omega) (by omega), lI_toInt (by omega) (by omega)]
theorem lI_eq {a b : Int} (ha : bigI a) (hb : bigI b) : lI a = lI b ↔ a = b := by
  obtain ⟨a1, a2⟩ := ha
  obtain ⟨b1, b2⟩ := hb
  rw [← Int64.toInt_inj, lI_toInt (by omega) (by omega), lI_toInt (by omega) (by omega)]
theorem l_c4 : (4000000000 : Int64) = lI 4000000000 := by decide +kernel
theorem l_c4n : (-4000000000 : Int64) = lI (-4000000000) := by decide +kernel
theorem l_c16 : (16 : Int64) = lI 16 := by decide +kernel
theorem l_c0 : (0 : Int64) = lI 0 := by decide +kernel
theorem l_i32 (z : Int) : (lI z).toInt32 = Int32.ofInt z := by
  unfold lI
  first | exact Int64.toInt32_ofInt z | simp
theorem i_of {x : Int32} : Int32.ofInt x.toInt = x := Int32.ofInt_toInt x
theorem i_ofI {z : Int} (h1 : -2147483648 ≤ z) (h2 : z < 2147483648) : (Int32.ofInt z).toInt = z := by
  rw [Int32.toInt_ofInt]
  show z.bmod 4294967296 = z
  exact Int.bmod_eq_of_le (by omega) (by omega)
def rfO (m : Nat) (w sl la sp rm ln qd lt pr tl tk sm my gr rc : Int32) : jE := .inr (5, [.int w, .int sl, .int la, .int sp, .int rm, .int ln, .ref (m + 1), .ref (m + 2), .ref (m + 3), .ref (m + 4), .ref (m + 5), .ref (m + 6), .int qd, .int lt, .int pr, .int tl, .int tk, .int sm, .int my, .int gr, .int rc])
/-- the reference's arrays -/
def RA (M : jM) (m : Nat) (ft fk fv kp mk qa : Nat → Int32) : Prop := M (m + 1) = some (.inl (0, 400, .inl ft)) ∧ M (m + 2) = some (.inl (0, 400, .inl fk)) ∧ M (m + 3) = some (.inl (0, 400, .inl fv)) ∧ M (m + 4) = some (.inl (0, 2, .inl kp)) ∧ M (m + 5) = some (.inl (0, 2, .inl mk)) ∧ M (m + 6) = some (.inl (0, 2400, .inl qa))
/-- which lists the arrays hold -/
def RLs (ft fk fv kp mk qa : Nat → Int32) (mA mB : Int32) (A B : List Ev) (qu : List Rec) : Prop := kp 0 = nI A.length ∧ kp 1 = nI B.length ∧ mk 0 = mA ∧ mk 1 = mB ∧ A.length ≤ 200 ∧ B.length ≤ 200 ∧ qu.length ≤ 400 ∧ (∀ i, i < A.length → A[i]? = some (ft i, fk i, fv i)) ∧ (∀ i, i < B.length → B[i]? = some (ft (200 + i), fk (200 + i), fv (200 + i))) ∧ ∀ i, i < qu.length → qu[i]? = some (rowAt qa (6 * i))
