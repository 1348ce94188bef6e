theorem mn_lt {a b : Int32} (h : ¬ b ≤ a) : mn a b = a := by
  unfold mn
  rw [if_neg (fun q => h (Int32.le_of_lt q))]
theorem mn_ge {a b : Int32} (h : b ≤ a) : mn a b = b := by
  unfold mn
  by_cases hl : b < a
  · rw [if_pos hl]
  · rw [if_neg hl]
    exact Int32.le_antisymm (Int32.not_lt.mp hl) h
/-- the end of the last window that holds time t -/
def lastE (w sl t : Int) : Int := t - t % sl + w
theorem i_tmod {a b : Int32} (hb : 0 < b.toInt) : (a - a / b * b).toInt = a.toInt.tmod b.toInt := by
  have hd := i_div (a := a) hb
  have hra := i_rng a
  have hrb := i_rng b
  have hm := Int.mul_tdiv_add_tmod a.toInt b.toInt
  have h1 : a.toInt.tdiv b.toInt * b.toInt = a.toInt - a.toInt.tmod b.toInt := by rw [Int.mul_comm]; omega
  have h2 : (a.toInt.tmod b.toInt).natAbs ≤ a.toInt.natAbs := by
    rw [Int.natAbs_tmod]
    exact Nat.mod_le _ _
  have hs : 0 ≤ a.toInt → 0 ≤ a.toInt.tmod b.toInt := fun h => Int.tmod_nonneg _ h
  have hn : a.toInt ≤ 0 → a.toInt.tmod b.toInt ≤ 0 := fun h => by
    have := Int.tmod_nonneg b.toInt (show 0 ≤ -a.toInt by omega)
    rw [Int.neg_tmod] at this
    omega
  have hmul : (a / b * b).toInt = a.toInt - a.toInt.tmod b.toInt := by
    rw [i_mul (by rw [hd, h1]; omega) (by rw [hd, h1]; omega), hd, h1]
  rw [i_sub (by rw [hmul]; omega) (by rw [hmul]; omega), hmul]
  omega
theorem lastE_eq {sl t : Int32} (hw : 1 ≤ sl.toInt ∧ sl.toInt ≤ 1000000) (ht : -1000000000 ≤ t.toInt ∧ t.toInt ≤ 1000000000) : (t - (t - t / sl * sl + sl - (t - t / sl * sl + sl) / sl * sl)).toInt = t.toInt - t.toInt % sl.toInt := by
  have hp : 0 < sl.toInt := by omega
  have h1 := i_tmod (a := t) hp
  have hl : -sl.toInt < t.toInt.tmod sl.toInt ∧ t.toInt.tmod sl.toInt < sl.toInt := by
    have hm1 := Int.emod_nonneg t.toInt (show sl.toInt ≠ 0 by omega)
    have hm2 := Int.emod_lt_of_pos t.toInt hp
    have h2 := Int.tmod_lt_of_pos t.toInt hp
    refine ⟨?_, h2⟩
    rw [Int.tmod_eq_emod]
    split
    · omega
    · rename_i hc
      have : t.toInt % sl.toInt ≠ 0 := fun q => hc (Or.inr (Int.dvd_of_emod_eq_zero q))
      omega
  have h2 : (t - t / sl * sl + sl).toInt = t.toInt.tmod sl.toInt + sl.toInt := by
    rw [i_add (by rw [h1]; omega) (by rw [h1]; omega), h1]
  have h3 := i_tmod (a := t - t / sl * sl + sl) hp
  rw [h2] at h3
  have h4 : (t.toInt.tmod sl.toInt + sl.toInt).tmod sl.toInt = t.toInt % sl.toInt := by
    rw [Int.tmod_eq_emod_of_nonneg (by omega), Int.add_emod_right]
    rw [Int.tmod_eq_emod]
    split
    · simp
    · have hab : (sl.toInt.natAbs : Int) = sl.toInt := by omega
      rw [hab, show t.toInt % sl.toInt - sl.toInt = t.toInt % sl.toInt + sl.toInt * (-1) by omega, Int.add_mul_emod_self_left]
      exact Int.emod_emod_of_dvd _ (Int.dvd_refl _)
  rw [h4] at h3
  have hm1 := Int.emod_nonneg t.toInt (show sl.toInt ≠ 0 by omega)
  have hm2 := Int.emod_lt_of_pos t.toInt hp
  rw [i_sub (by rw [h3]; omega) (by rw [h3]; omega), h3]
