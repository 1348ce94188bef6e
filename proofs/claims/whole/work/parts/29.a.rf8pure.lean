/-! Long remainders; blocks of equal ends. -/
theorem l_div {a b : Int} (ha : bigI a) (hb : bigI b) (hp : 0 < b) : lI a / lI b = lI (a.tdiv b) := by
  obtain ⟨a1, a2⟩ := ha
  obtain ⟨b1, b2⟩ := hb
  have h1 : (a.tdiv b).natAbs ≤ a.natAbs := by
    rw [Int.natAbs_tdiv]
    exact Nat.div_le_self _ _
  rw [← Int64.toInt_inj, Int64.toInt_div, lI_toInt (by omega) (by omega), lI_toInt (by omega) (by omega), lI_toInt (by omega) (by omega)]
  exact Int.bmod_eq_of_le (by omega) (by omega)
theorem l_rem {a b : Int} (ha : bigI a) (hb : bigI b) (hp : 0 < b) : lI a - lI a / lI b * lI b = lI (a.tmod b) := by
  rw [l_div ha hb hp, lI_mul, lI_sub]
  have hm := Int.mul_tdiv_add_tmod a b
  have h1 : a - a.tdiv b * b = a.tmod b := by rw [Int.mul_comm]; omega
  rw [h1]
theorem tmod_0 {a b : Int} : a.tmod b = 0 ↔ a % b = 0 := by
  constructor
  · intro h
    exact Int.emod_eq_zero_of_dvd (Int.dvd_of_tmod_eq_zero h)
  · intro h
    exact Int.tmod_eq_zero_of_dvd (Int.dvd_of_emod_eq_zero h)
theorem tmod_big {a b : Int} (ha : bigI a) : bigI (a.tmod b) := by
  obtain ⟨a1, a2⟩ := ha
  have h2 : (a.tmod b).natAbs ≤ a.natAbs := by
    rw [Int.natAbs_tmod]
    exact Nat.mod_le _ _
  exact ⟨by omega, by omega⟩
/-- a rising list, cut behind its groups that end at z -/
theorem blk {z : Int} : ∀ {td : List Grp}, td.Pairwise gLt → (∀ g ∈ td, z ≤ g.1.toInt) → ∃ bl td2, td = bl ++ td2 ∧ (∀ g ∈ bl, g.1.toInt = z) ∧ (∀ g ∈ td2, z < g.1.toInt) := by
  intro td
  induction td with
  | nil => intro _ _; exact ⟨[], [], rfl, fun g hg => absurd hg List.not_mem_nil, fun g hg => absurd hg List.not_mem_nil⟩
  | cons a t ih =>
    intro hp hz
    obtain ⟨hpa, hpt⟩ := List.pairwise_cons.mp hp
    by_cases ha : a.1.toInt = z
    · obtain ⟨bl, td2, h1, h2, h3⟩ := ih hpt (fun g hg => hz g (List.mem_cons_of_mem _ hg))
      refine ⟨a :: bl, td2, by rw [h1]; rfl, fun g hg => ?_, h3⟩
      rcases List.mem_cons.mp hg with rfl | hg
      · exact ha
      · exact h2 g hg
    · refine ⟨[], a :: t, rfl, fun g hg => by (cases hg), fun g hg => ?_⟩
      have h0 := hz a List.mem_cons_self
      rcases List.mem_cons.mp hg with rfl | hg
      · omega
      · rcases hpa g hg with q | ⟨q, _⟩
        · omega
        · rw [← q]
          omega
theorem blk_ne {z : Int} {bl td2 : List Grp} (h : ∃ g ∈ bl ++ td2, g.1.toInt = z) (h3 : ∀ g ∈ td2, z < g.1.toInt) : bl ≠ [] := by
  obtain ⟨g, hg, hz⟩ := h
  intro q
  subst q
  have := h3 g hg
  omega
/-- what look answers of a group -/
def lkv (v : Int32) (r : Int32 × Int32 × Int32) : Int32 := if v = 0 then r.1 else if v = 1 then r.2.1 else if v = 2 then r.2.2 else 0

theorem lk_2 {v : Int32} (h : 0 ≤ v ∧ v ≤ 2) (h0 : ¬ v = 0) (h1 : ¬ v = 1) : v = 2 := by
  have g1 := i_le.mp h.1
  have g2 := i_le.mp h.2
  have c0 : (0 : Int32).toInt = 0 := by decide
  have c1 : (1 : Int32).toInt = 1 := by decide
  have c2 : (2 : Int32).toInt = 2 := by decide
  have n0 : ¬ v.toInt = 0 := fun q => h0 (i_eq.mpr (by rw [q, c0]))
  have n1 : ¬ v.toInt = 1 := fun q => h1 (i_eq.mpr (by rw [q, c1]))
  exact i_eq.mpr (by rw [c2]; omega)
