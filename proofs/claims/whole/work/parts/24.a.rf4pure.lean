theorem set_16 {a b : Int32} (h1 : 1 ≤ a ∧ a ≤ 1000000) (h2 : 1 ≤ b ∧ b ≤ a) : (16 * b).toInt = 16 * b.toInt := by
  have e1 := i_le.mp h1.2
  have e2 := i_le.mp h2.1
  have e3 := i_le.mp h2.2
  have c1 : (1000000 : Int32).toInt = 1000000 := by decide
  have c2 : (1 : Int32).toInt = 1 := by decide
  have c3 : (16 : Int32).toInt = 16 := by decide
  rw [i_mul (by rw [c3]; omega) (by rw [c3]; omega), c3]
theorem set_ok {a b : Int32} (h1 : 1 ≤ a ∧ a ≤ 1000000) (h2 : 1 ≤ b ∧ b ≤ a) (h3 : ¬ 16 * b.toInt < a.toInt) : okW a b := ⟨h1, h2, i_le.mpr (by rw [set_16 h1 h2]; omega)⟩
theorem set_no {a b : Int32} (h : okW a b) : ¬ 16 * b.toInt < a.toInt := by
  have := i_le.mp h.2.2
  rw [set_16 h.1 h.2.1] at this
  omega
theorem pop_lo {qi qa : Nat → Int32} {i : Nat} (hlo : ∀ q, q < i → qi q = qa (q + 6)) (hhi : ∀ q, i ≤ q → qi q = qa q) : ∀ q, q < i + 1 → upd qi i (qi (i + 6)) q = qa (q + 6) := by
  intro q hq
  by_cases h : q = i
  · subst h
    rw [pk_us]
    exact hhi _ (by omega)
  · rw [pk_un h]
    exact hlo q (by omega)
theorem pop_hi {qi qa : Nat → Int32} {i : Nat} {x : Int32} (hhi : ∀ q, i ≤ q → qi q = qa q) : ∀ q, i + 1 ≤ q → upd qi i x q = qa q := by
  intro q hq
  rw [pk_un (by omega)]
  exact hhi q (by omega)
theorem zo_iff {p q : Prop} [Decidable p] [Decidable q] (h : p ↔ q) : (if p then (1 : Int32) else 0) = (if q then 1 else 0) := by
  by_cases hp : p
  · rw [if_pos hp, if_pos (h.mp hp)]
  · rw [if_neg hp, if_neg (fun z => hp (h.mpr z))]
