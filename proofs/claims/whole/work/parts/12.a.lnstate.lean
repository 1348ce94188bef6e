/-! The queue: a ring of rows of six numbers. -/
abbrev Rec : Type := Int32 × Int32 × Int32 × Int32 × Int32 × Int32
def rowAt (arr : Nat → Int32) (r : Nat) : Rec := (arr r, arr (r + 1), arr (r + 2), arr (r + 3), arr (r + 4), arr (r + 5))
def rec_get (rc : Rec) (k : Nat) : Int32 := match k with
  | 0 => rc.1
  | 1 => rc.2.1
  | 2 => rc.2.2.1
  | 3 => rc.2.2.2.1
  | 4 => rc.2.2.2.2.1
  | _ => rc.2.2.2.2.2
def LnAt (M : jM) (o : Nat) (recs : List Rec) : Prop := ∃ (fi : Nat) (arr : Nat → Int32), M o = some (.inr (3, [.ref (o + 1), .int (nI fi), .int (nI recs.length)])) ∧ M (o + 1) = some (.inl (0, 2400, .inl arr)) ∧ fi < 400 ∧ recs.length ≤ 400 ∧ ∀ i, i < recs.length → recs[i]? = some (rowAt arr ((fi + i) % 400 * 6))
theorem LnAt.cell {M : jM} {o : Nat} {l : List Rec} (h : LnAt M o l) : ∃ fi, M o = some (.inr (3, [.ref (o + 1), .int (nI fi), .int (nI l.length)])) := by
  obtain ⟨fi, arr, h0, _⟩ := h
  exact ⟨fi, h0⟩
theorem LnAt.len {M : jM} {o : Nat} {l : List Rec} (h : LnAt M o l) : l.length ≤ 400 := by
  obtain ⟨_, _, _, _, _, h, _⟩ := h
  exact h
theorem LnAt.frame {M M' : jM} {o : Nat} {l : List Rec} (h : LnAt M o l) (hf : ∀ q, o ≤ q → q ≤ o + 1 → M' q = M q) : LnAt M' o l := by
  obtain ⟨fi, arr, h0, h1, h2⟩ := h
  exact ⟨fi, arr, by rw [hf o (by omega) (by omega)]; exact h0, by rw [hf (o + 1) (by omega) (by omega)]; exact h1, h2⟩
theorem ln_row {a : Nat} (h : a < 2 ^ 31) : (nI a - nI a / 400 * 400) * 6 = nI (a % 400 * 6) := by
  have h1 := pk_rem (d := 400) h (by decide) (by decide)
  have h2 : nI 400 = 400 := by decide
  have h3 : nI 6 = 6 := by decide
  rw [h2] at h1
  rw [h1, ← h3, pk_mul]
theorem ln_rem {a : Nat} (h : a < 2 ^ 31) : nI a - nI a / 400 * 400 = nI (a % 400) := by
  have h1 := pk_rem (d := 400) h (by decide) (by decide)
  have h2 : nI 400 = 400 := by decide
  rw [h2] at h1
  exact h1
theorem rowAt_other {arr : Nat → Int32} {r s : Nat} (a b c d e f : Int32) (h : s + 5 < r ∨ r + 5 < s) : rowAt (upd (upd (upd (upd (upd (upd arr r a) (r + 1) b) (r + 2) c) (r + 3) d) (r + 4) e) (r + 5) f) s = rowAt arr s := by
  have hn : ∀ i j, i < 6 → j < 6 → s + i ≠ r + j := fun i j _ _ => by omega
  have h0 := fun j hj => hn 0 j (by omega) hj
  simp only [rowAt, upd]
  refine Prod.ext ?_ (Prod.ext ?_ (Prod.ext ?_ (Prod.ext ?_ (Prod.ext ?_ ?_)))) <;> (repeat rw [if_neg (by omega)])
theorem rowAt_self {arr : Nat → Int32} {r : Nat} (a b c d e f : Int32) : rowAt (upd (upd (upd (upd (upd (upd arr r a) (r + 1) b) (r + 2) c) (r + 3) d) (r + 4) e) (r + 5) f) r = (a, b, c, d, e, f) := by
  simp [rowAt, upd]
theorem ln_push {recs : List Rec} {fi : Nat} {arr : Nat → Int32} (hf : fi < 400) (hl : recs.length < 400) (h : ∀ i, i < recs.length → recs[i]? = some (rowAt arr ((fi + i) % 400 * 6))) (a b c d e f : Int32) {r : Nat} (hr : (fi + recs.length) % 400 * 6 = r) :
    ∀ i, i < (recs ++ [(a, b, c, d, e, f)]).length → (recs ++ [(a, b, c, d, e, f)])[i]? = some (rowAt (upd (upd (upd (upd (upd (upd arr r a) (r + 1) b) (r + 2) c) (r + 3) d) (r + 4) e) (r + 5) f) ((fi + i) % 400 * 6)) := by
  intro i hi
  rw [List.length_append] at hi
  have hi : i < recs.length + 1 := hi
  by_cases h1 : i < recs.length
  · rw [List.getElem?_append_left h1, h i h1, rowAt_other]
    omega
  · have h2 : i = recs.length := by omega
    subst h2
    rw [hr, rowAt_self]
    simp
theorem rec_row (arr : Nat → Int32) (r : Nat) : ∀ k, k < 6 → rec_get (rowAt arr r) k = arr (r + k) := by
  intro k hk
  match k, hk with
  | 0, _ => rfl
  | 1, _ => rfl
  | 2, _ => rfl
  | 3, _ => rfl
  | 4, _ => rfl
  | 5, _ => rfl
