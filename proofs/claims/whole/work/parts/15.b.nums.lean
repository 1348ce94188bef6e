/-! Numbers: Int32 as integers, while they stay small. -/
theorem i_add {a b : Int32} (h1 : -2147483648 ≤ a.toInt + b.toInt) (h2 : a.toInt + b.toInt < 2147483648) : (a + b).toInt = a.toInt + b.toInt := by
  rw [Int32.toInt_add]
  exact Int.bmod_eq_of_le (by omega) (by omega)
theorem i_sub {a b : Int32} (h1 : -2147483648 ≤ a.toInt - b.toInt) (h2 : a.toInt - b.toInt < 2147483648) : (a - b).toInt = a.toInt - b.toInt := by
  rw [Int32.toInt_sub]
  exact Int.bmod_eq_of_le (by omega) (by omega)
theorem i_mul {a b : Int32} (h1 : -2147483648 ≤ a.toInt * b.toInt) (h2 : a.toInt * b.toInt < 2147483648) : (a * b).toInt = a.toInt * b.toInt := by
  rw [Int32.toInt_mul]
  exact Int.bmod_eq_of_le (by omega) (by omega)
theorem i_le {a b : Int32} : a ≤ b ↔ a.toInt ≤ b.toInt := Int32.le_iff_toInt_le
theorem i_lt {a b : Int32} : a < b ↔ a.toInt < b.toInt := Int32.lt_iff_toInt_lt
theorem i_eq {a b : Int32} : a = b ↔ a.toInt = b.toInt := ⟨fun h => by rw [h], fun h => Int32.toInt_inj.mp h⟩
theorem i_rng (a : Int32) : -2147483648 ≤ a.toInt ∧ a.toInt < 2147483648 := by
  have h1 := Int32.le_toInt a
  have h2 := Int32.toInt_lt a
  omega
theorem i_xor {a b : Int32} (hb : 0 < b.toInt) : 0 ≤ a ^^^ b ↔ 0 ≤ a.toInt := by
  rw [Int32.le_iff_toInt_le, Int32.toInt_zero]
  have h1 : (a ^^^ b).toBitVec.msb = decide ((a ^^^ b).toBitVec.toInt < 0) := BitVec.msb_eq_toInt
  have h2 : a.toBitVec.msb = decide (a.toBitVec.toInt < 0) := BitVec.msb_eq_toInt
  have h3 : b.toBitVec.msb = decide (b.toBitVec.toInt < 0) := BitVec.msb_eq_toInt
  have e1 : (a ^^^ b).toBitVec.toInt = (a ^^^ b).toInt := rfl
  have e2 : a.toBitVec.toInt = a.toInt := rfl
  have e3 : b.toBitVec.toInt = b.toInt := rfl
  rw [e1, Int32.toBitVec_xor, BitVec.msb_xor, h2, h3, e2, e3] at h1
  have h4 : decide (b.toInt < 0) = false := by simpa using by omega
  rw [h4, Bool.xor_false] at h1
  have h5 : (a.toInt < 0) ↔ ((a ^^^ b).toInt < 0) := by
    constructor
    · intro h
      rw [decide_eq_true h] at h1
      exact of_decide_eq_true h1.symm
    · intro h
      rw [decide_eq_true h] at h1
      exact of_decide_eq_true h1
  omega
theorem i_div {a b : Int32} (hb : 0 < b.toInt) : (a / b).toInt = a.toInt.tdiv b.toInt := by
  rw [Int32.toInt_div]
  have h := i_rng a
  have h1 : (a.toInt.tdiv b.toInt).natAbs ≤ a.toInt.natAbs := by
    rw [Int.natAbs_tdiv]
    exact Nat.div_le_self _ _
  have h3 : 0 ≤ a.toInt → 0 ≤ a.toInt.tdiv b.toInt := fun h => Int.tdiv_nonneg h (by omega)
  refine Int.bmod_eq_of_le ?_ ?_
  · omega
  · by_cases h0 : 0 ≤ a.toInt
    · omega
    · have : a.toInt.tdiv b.toInt ≤ 0 := by
        have := Int.tdiv_nonneg (show 0 ≤ -a.toInt by omega) (show 0 ≤ b.toInt by omega)
        rw [Int.neg_tdiv] at this
        omega
      omega
/-- floorDiv is division rounded down, by a divisor above 0 -/
theorem fd_int {a b : Int32} (hb : 0 < b.toInt) : (fd a b).toInt = a.toInt / b.toInt := by
  have hd := i_div (a := a) hb
  have hra := i_rng a
  have hrb := i_rng b
  unfold fd
  by_cases h0 : 0 ≤ a.toInt
  · rw [if_pos ((i_xor hb).mpr h0), hd, Int.tdiv_eq_ediv_of_nonneg h0]
  · rw [if_neg (fun h => h0 ((i_xor hb).mp h))]
    have ht := Int.tdiv_eq_ediv (a := a.toInt) (b := b.toInt)
    have hs : b.toInt.sign = 1 := Int.sign_eq_one_of_pos hb
    rw [hs] at ht
    have hem := Int.mul_ediv_add_emod a.toInt b.toInt
    have hm1 := Int.emod_nonneg a.toInt (show b.toInt ≠ 0 by omega)
    have hm2 := Int.emod_lt_of_pos a.toInt hb
    have hdv : a.toInt / b.toInt ≤ -1 := by
      have := Int.ediv_neg_of_neg_of_pos (show a.toInt < 0 by omega) hb
      omega
    by_cases hdvd : b.toInt ∣ a.toInt
    · have hmod : a.toInt % b.toInt = 0 := Int.emod_eq_zero_of_dvd hdvd
      have hq : a.toInt.tdiv b.toInt = a.toInt / b.toInt := by
        rw [ht, if_pos (Or.inr hdvd)]
        omega
      have hmul : (a / b * b).toInt = a.toInt := by
        have hpr : a.toInt / b.toInt * b.toInt = a.toInt := by rw [Int.mul_comm]; omega
        rw [i_mul (by rw [hd, hq, hpr]; omega) (by rw [hd, hq, hpr]; omega), hd, hq, hpr]
      rw [if_pos (i_eq.mpr hmul), hd, hq]
    · have hmod : a.toInt % b.toInt ≠ 0 := fun h => hdvd (Int.dvd_of_emod_eq_zero h)
      have hq : a.toInt.tdiv b.toInt = a.toInt / b.toInt + 1 := by
        rw [ht, if_neg (fun h => h.elim h0 hdvd)]
      have hqr : -2147483648 ≤ a.toInt / b.toInt := by
        have h1 : (a.toInt / b.toInt) * b.toInt ≤ (a.toInt / b.toInt) * 1 := Int.mul_le_mul_of_nonpos_left (by omega) (by omega)
        have h2 := i_rng (a / b)
        rw [hd, hq] at h2
        have h3 : a.toInt ≤ a.toInt / b.toInt := by
          have := Int.le_ediv_of_mul_le (a := a.toInt) (b := a.toInt) (c := b.toInt) hb (by
            have : a.toInt * b.toInt ≤ a.toInt * 1 := Int.mul_le_mul_of_nonpos_left (by omega) (by omega)
            omega)
          exact this
        omega
      have hne : ¬ a / b * b = a := by
        intro h
        have h1 := i_eq.mp h
        have hpr : (a.toInt / b.toInt + 1) * b.toInt = a.toInt - a.toInt % b.toInt + b.toInt := by rw [Int.add_mul, Int.mul_comm, Int.one_mul]; omega
        rw [i_mul (by rw [hd, hq, hpr]; omega) (by rw [hd, hq, hpr]; omega), hd, hq, hpr] at h1
        omega
      rw [if_neg hne, i_sub (by rw [hd, hq]; show _ ≤ _ - (1 : Int); omega) (by rw [hd, hq]; show _ - (1 : Int) < _; omega), hd, hq]
      show _ - (1 : Int) = _
      omega
