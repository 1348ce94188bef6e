/-! The class's numbers as integers: ends, what is kept, what is told, what is looked at. -/
theorem endsF_mem {t w sl : Int32} (ht : t.toInt ≤ 1000000000) : ∀ {n : Nat} {b : Int32}, okB w sl b → ∀ e ∈ endsF t w sl n b, ∃ j : Nat, e.toInt = b.toInt + j * sl.toInt + w.toInt ∧ b.toInt + j * sl.toInt ≤ t.toInt := by
  intro n
  induction n with
  | zero => intro b _ e he; cases he
  | succ n ih =>
    intro b hb e he
    by_cases hbt : b ≤ t
    · rw [endsF_T hbt] at he
      have hb2 := i_le.mp hbt
      obtain ⟨h1, h2, h3, h4, h5⟩ := id hb
      rcases List.mem_cons.mp he with rfl | he
      · refine ⟨0, ?_, ?_⟩
        · rw [i_add (by omega) (by omega)]; omega
        · omega
      · obtain ⟨j, e1, e2⟩ := ih (hb.step ht hbt).1 e he
        have e3 : (b + sl).toInt = b.toInt + sl.toInt := i_add (by omega) (by omega)
        have e4 : ((j + 1 : Nat) : Int) * sl.toInt = j * sl.toInt + sl.toInt := by
          rw [Int.natCast_add, Int.add_mul]; simp
        exact ⟨j + 1, by rw [e1, e3, e4]; omega, by rw [e3] at e2; rw [e4]; omega⟩
    · rw [endsF_F hbt] at he
      cases he
theorem endsF_nodup {t w sl : Int32} (ht : t.toInt ≤ 1000000000) : ∀ {n : Nat} {b : Int32}, okB w sl b → (endsF t w sl n b).Nodup := by
  intro n
  induction n with
  | zero => intro b _; exact List.Pairwise.nil
  | succ n ih =>
    intro b hb
    by_cases hbt : b ≤ t
    · rw [endsF_T hbt]
      have hb2 := i_le.mp hbt
      obtain ⟨h1, h2, h3, h4, h5⟩ := id hb
      refine List.nodup_cons.mpr ⟨fun q => ?_, ih (hb.step ht hbt).1⟩
      obtain ⟨j, e1, _⟩ := endsF_mem ht (hb.step ht hbt).1 _ q
      rw [i_add (by omega) (by omega), i_add (a := b) (b := sl) (by omega) (by omega)] at e1
      have : 0 ≤ (j : Int) * sl.toInt := Int.mul_nonneg (by omega) (by omega)
      omega
    · rw [endsF_F hbt]
      exact List.Pairwise.nil
theorem endsF_has {t w sl : Int32} (ht : t.toInt ≤ 1000000000) : ∀ {n : Nat} {b : Int32}, okB w sl b → ∀ j : Nat, j < n → b.toInt + j * sl.toInt ≤ t.toInt → ∃ e ∈ endsF t w sl n b, e.toInt = b.toInt + j * sl.toInt + w.toInt := by
  intro n
  induction n with
  | zero => intro b _ j hj; exact absurd hj (Nat.not_lt_zero j)
  | succ n ih =>
    intro b hb j hj hjt
    obtain ⟨h1, h2, h3, h4, h5⟩ := id hb
    have hnn : 0 ≤ (j : Int) * sl.toInt := Int.mul_nonneg (by omega) (by omega)
    have hbt : b ≤ t := i_le.mpr (by omega)
    rw [endsF_T hbt]
    cases j with
    | zero =>
      refine ⟨b + w, List.mem_cons_self, ?_⟩
      rw [i_add (by omega) (by omega)]; omega
    | succ j =>
      have e3 : (b + sl).toInt = b.toInt + sl.toInt := i_add (by omega) (by omega)
      have e4 : ((j + 1 : Nat) : Int) * sl.toInt = j * sl.toInt + sl.toInt := by
        rw [Int.natCast_add, Int.add_mul]; simp
      rw [e4] at hjt ⊢
      obtain ⟨e, he, e1⟩ := ih (hb.step ht hbt).1 j (by omega) (by rw [e3]; omega)
      exact ⟨e, List.mem_cons_of_mem _ he, by rw [e1, e3]; omega⟩
theorem begin_int {x sl : Int32} (hs : 1 ≤ sl.toInt ∧ sl.toInt ≤ 1000000) (hx : -2140000000 ≤ x.toInt ∧ x.toInt ≤ 2140000000) : ((fd x sl + 1) * sl).toInt = (x.toInt / sl.toInt + 1) * sl.toInt := by
  have hf := fd_int (a := x) (b := sl) (by omega)
  have hd := Int.mul_ediv_add_emod x.toInt sl.toInt
  have hm1 := Int.emod_nonneg x.toInt (show sl.toInt ≠ 0 by omega)
  have hm2 := Int.emod_lt_of_pos x.toInt (show 0 < sl.toInt by omega)
  have hq : -2140000000 ≤ x.toInt / sl.toInt ∧ x.toInt / sl.toInt ≤ 2140000000 := by
    by_cases h0 : 0 ≤ x.toInt
    · have a1 := Int.ediv_nonneg h0 (show 0 ≤ sl.toInt by omega)
      have a2 := Int.ediv_le_self sl.toInt h0
      omega
    · have a1 := Int.ediv_neg_of_neg_of_pos (show x.toInt < 0 by omega) (show 0 < sl.toInt by omega)
      have a2 : x.toInt ≤ x.toInt / sl.toInt := Int.le_ediv_of_mul_le (by omega) (by
        have : x.toInt * sl.toInt ≤ x.toInt * 1 := Int.mul_le_mul_of_nonpos_left (by omega) (by omega)
        omega)
      omega
  have h1 : (fd x sl + 1).toInt = x.toInt / sl.toInt + 1 := by
    have c1 : (1 : Int32).toInt = 1 := by decide
    rw [i_add (by rw [hf, c1]; omega) (by rw [hf, c1]; omega), hf, c1]
  have h2 : (x.toInt / sl.toInt + 1) * sl.toInt = sl.toInt * (x.toInt / sl.toInt) + sl.toInt := by
    rw [Int.add_mul, Int.mul_comm]; omega
  rw [i_mul (by rw [h1, h2]; omega) (by rw [h1, h2]; omega), h1]
/-- the class's ends are just those of the windows that hold the time -/
theorem ends_ok {t w sl : Int32} {τ : Int} (hN : okN w sl) (h16 : w.toInt ≤ 16 * sl.toInt) (ht : -1000000000 ≤ t.toInt ∧ t.toInt ≤ 1000000000) (hτ : τ ≤ t.toInt) : okB w sl ((fd (t - w) sl + 1) * sl) ∧ (endsF t w sl 16 ((fd (t - w) sl + 1) * sl)).Nodup ∧ (∀ e ∈ endsF t w sl 16 ((fd (t - w) sl + 1) * sl), isW w.toInt sl.toInt e.toInt ∧ inW w.toInt t.toInt e.toInt ∧ τ < e.toInt) ∧ ∀ z, isW w.toInt sl.toInt z → inW w.toInt t.toInt z → ∃ e ∈ endsF t w sl 16 ((fd (t - w) sl + 1) * sl), e.toInt = z := by
  obtain ⟨hw, hs⟩ := hN
  have htw : (t - w).toInt = t.toInt - w.toInt := i_sub (by omega) (by omega)
  have hb := begin_int (x := t - w) hs (by rw [htw]; omega)
  rw [htw] at hb
  generalize hB : (fd (t - w) sl + 1) * sl = B at hb ⊢
  have hd := Int.mul_ediv_add_emod (t.toInt - w.toInt) sl.toInt
  have hm1 := Int.emod_nonneg (t.toInt - w.toInt) (show sl.toInt ≠ 0 by omega)
  have hm2 := Int.emod_lt_of_pos (t.toInt - w.toInt) (show 0 < sl.toInt by omega)
  have h2 : ((t.toInt - w.toInt) / sl.toInt + 1) * sl.toInt = sl.toInt * ((t.toInt - w.toInt) / sl.toInt) + sl.toInt := by
    rw [Int.add_mul, Int.mul_comm]; omega
  have hok : okB w sl B := ⟨hw.1, hw.2, hs.1, hs.2, by omega⟩
  refine ⟨hok, endsF_nodup ht.2 hok, fun e he => ?_, fun z hz hin => ?_⟩
  · obtain ⟨j, e1, e2⟩ := endsF_mem ht.2 hok e he
    have hnn : 0 ≤ (j : Int) * sl.toInt := Int.mul_nonneg (by omega) (by omega)
    refine ⟨?_, ⟨by omega, by omega⟩, by omega⟩
    unfold isW
    have : e.toInt - w.toInt = sl.toInt * ((t.toInt - w.toInt) / sl.toInt + 1 + j) := by
      rw [Int.mul_add, Int.mul_add, Int.mul_comm sl.toInt (j : Int)]
      omega
    rw [this]
    exact Int.mul_emod_right _ _
  · obtain ⟨i1, i2⟩ := hin
    obtain ⟨q, hq⟩ := Int.dvd_of_emod_eq_zero hz
    have hQ : (t.toInt - w.toInt) / sl.toInt < q := Int.ediv_lt_of_lt_mul (by omega) (by rw [Int.mul_comm]; omega)
    have hdf : sl.toInt * (q - (t.toInt - w.toInt) / sl.toInt - 1) = sl.toInt * q - sl.toInt * ((t.toInt - w.toInt) / sl.toInt) - sl.toInt := by
      rw [Int.mul_sub, Int.mul_sub, Int.mul_one]
    have hlt : q - (t.toInt - w.toInt) / sl.toInt - 1 < 16 := by
      rcases i_lge (q - (t.toInt - w.toInt) / sl.toInt - 1) 16 with h | h
      · exact h
      · have : sl.toInt * 16 ≤ sl.toInt * (q - (t.toInt - w.toInt) / sl.toInt - 1) := Int.mul_le_mul_of_nonneg_left h (by omega)
        omega
    have hc : (((q - (t.toInt - w.toInt) / sl.toInt - 1).toNat : Nat) : Int) = q - (t.toInt - w.toInt) / sl.toInt - 1 := by omega
    have hjs : (((q - (t.toInt - w.toInt) / sl.toInt - 1).toNat : Nat) : Int) * sl.toInt = sl.toInt * q - sl.toInt * ((t.toInt - w.toInt) / sl.toInt) - sl.toInt := by
      rw [hc, Int.mul_comm]; exact hdf
    obtain ⟨e, he, e1⟩ := endsF_has ht.2 hok (q - (t.toInt - w.toInt) / sl.toInt - 1).toNat (n := 16) (by omega) (by rw [hjs]; omega)
    exact ⟨e, he, by rw [e1, hjs]; omega⟩
theorem mn_le {a b t : Int32} : mn a b ≤ t ↔ a ≤ t ∨ b ≤ t := by
  unfold mn
  by_cases h : b < a
  · rw [if_pos h]
    exact ⟨Or.inr, fun q => q.elim (fun q => i_le.mpr (by have := i_le.mp q; have := i_lt.mp h; omega)) id⟩
  · rw [if_neg h]
    exact ⟨Or.inl, fun q => q.elim id (fun q => i_le.mpr (by have := i_le.mp q; have : ¬ b.toInt < a.toInt := fun z => h (i_lt.mpr z); omega))⟩
theorem mn_int {a b : Int32} : (mn a b).toInt ≤ a.toInt ∧ (mn a b).toInt ≤ b.toInt ∧ ((mn a b).toInt = a.toInt ∨ (mn a b).toInt = b.toInt) := by
  unfold mn
  by_cases h : b < a
  · rw [if_pos h]
    have := i_lt.mp h
    exact ⟨by omega, by omega, Or.inr rfl⟩
  · rw [if_neg h]
    have : ¬ b.toInt < a.toInt := fun z => h (i_lt.mpr z)
    exact ⟨by omega, by omega, Or.inl rfl⟩
/-- the settings' numbers -/
def okI (w sl la sp rm ln : Int32) : Prop := okN w sl ∧ w.toInt ≤ 16 * sl.toInt ∧ (0 ≤ la.toInt ∧ la.toInt ≤ 1000000) ∧ (0 ≤ sp.toInt ∧ sp.toInt ≤ 1000000) ∧ (1 ≤ rm.toInt ∧ rm.toInt ≤ 200) ∧ (1 ≤ ln.toInt ∧ ln.toInt ≤ 400)
theorem okS_I {w sl la sp rm ln : Int32} (h : okS w sl la sp rm ln) : okI w sl la sp rm ln := by
  obtain ⟨hW, ⟨a1, a2⟩, ⟨b1, b2⟩, ⟨c1, c2⟩, d1, d2⟩ := h
  have hno := set_no hW
  obtain ⟨⟨w1, w2⟩, ⟨s1, s2⟩, _⟩ := hW
  have e1 := i_le.mp w1
  have e2 := i_le.mp w2
  have e3 := i_le.mp s1
  have e4 := i_le.mp s2
  have e5 := i_le.mp a1
  have e6 := i_le.mp a2
  have e7 := i_le.mp b1
  have e8 := i_le.mp b2
  have e9 := i_le.mp c1
  have e10 := i_le.mp c2
  have e11 := i_le.mp d1
  have e12 := i_le.mp d2
  have k1 : (1 : Int32).toInt = 1 := by decide
  have k2 : (1000000 : Int32).toInt = 1000000 := by decide
  have k3 : (0 : Int32).toInt = 0 := by decide
  have k4 : (200 : Int32).toInt = 200 := by decide
  have k5 : (400 : Int32).toInt = 400 := by decide
  exact ⟨⟨⟨by omega, by omega⟩, ⟨by omega, by omega⟩⟩, by omega, ⟨by omega, by omega⟩, ⟨by omega, by omega⟩, ⟨by omega, by omega⟩, ⟨by omega, by omega⟩⟩
theorem keepA_eq {w sl la sp rm ln k t : Int32} (h : okI w sl la sp rm ln) (hk : -2000000000 ≤ k.toInt ∧ k.toInt ≤ 1000000000) : decide (mn (k - la - sp) ((fd (k - la - w) sl + 1) * sl) ≤ t) = kpA w.toInt sl.toInt la.toInt sp.toInt k.toInt t.toInt := by
  obtain ⟨⟨hw, hs⟩, h16, hla, hsp, _, _⟩ := h
  have a1 : (k - la).toInt = k.toInt - la.toInt := i_sub (by omega) (by omega)
  have a2 : (k - la - sp).toInt = k.toInt - la.toInt - sp.toInt := by rw [i_sub (by omega) (by omega), a1]
  have a3 : (k - la - w).toInt = k.toInt - la.toInt - w.toInt := by rw [i_sub (by omega) (by omega), a1]
  have hb := begin_int (x := k - la - w) hs (by rw [a3]; omega)
  rw [a3] at hb
  have hd := Int.mul_ediv_add_emod t.toInt sl.toInt
  have hm1 := Int.emod_nonneg t.toInt (show sl.toInt ≠ 0 by omega)
  have hm2 := Int.emod_lt_of_pos t.toInt (show 0 < sl.toInt by omega)
  have hd2 := Int.mul_ediv_add_emod (k.toInt - la.toInt - w.toInt) sl.toInt
  have hn1 := Int.emod_nonneg (k.toInt - la.toInt - w.toInt) (show sl.toInt ≠ 0 by omega)
  have hn2 := Int.emod_lt_of_pos (k.toInt - la.toInt - w.toInt) (show 0 < sl.toInt by omega)
  rw [Bool.eq_iff_iff]
  unfold kpA
  rw [decide_eq_true_eq, Bool.or_eq_true, decide_eq_true_eq, Bool.not_eq_true', decide_eq_false_iff_not, mn_le, i_le, i_le, hb, a2]
  have hlast : lastE w.toInt sl.toInt t.toInt = sl.toInt * (t.toInt / sl.toInt) + w.toInt := by unfold lastE; omega
  rw [hlast]
  generalize (k.toInt - la.toInt - w.toInt) / sl.toInt = q at hd2 ⊢
  have key : (q + 1) * sl.toInt ≤ t.toInt ↔ ¬ sl.toInt * (t.toInt / sl.toInt) + w.toInt + la.toInt ≤ k.toInt := by
    constructor
    · intro hq
      have h1 : q + 1 ≤ t.toInt / sl.toInt := Int.le_ediv_of_mul_le (by omega) hq
      have h2 : sl.toInt * (q + 1) ≤ sl.toInt * (t.toInt / sl.toInt) := Int.mul_le_mul_of_nonneg_left h1 (by omega)
      rw [Int.mul_add, Int.mul_one] at h2
      omega
    · intro hq
      have h1 : q < t.toInt / sl.toInt := by
        rcases i_lge q (t.toInt / sl.toInt) with h | h
        · exact h
        · have h2 : sl.toInt * (t.toInt / sl.toInt) ≤ sl.toInt * q := Int.mul_le_mul_of_nonneg_left h (by omega)
          omega
      have h2 : sl.toInt * (q + 1) ≤ sl.toInt * (t.toInt / sl.toInt) := Int.mul_le_mul_of_nonneg_left (by omega) (by omega)
      rw [Int.mul_comm]
      omega
  rw [key]
  constructor
  · rintro (h | h)
    · exact Or.inl (by omega)
    · exact Or.inr h
  · rintro (h | h)
    · exact Or.inl (by omega)
    · exact Or.inr h
theorem keepB_eq {w sl la sp rm ln k t : Int32} (h : okI w sl la sp rm ln) (hk : -2000000000 ≤ k.toInt ∧ k.toInt ≤ 1000000000) : decide (k - la - sp ≤ t) = kpB la.toInt sp.toInt k.toInt t.toInt := by
  obtain ⟨⟨hw, hs⟩, h16, hla, hsp, _, _⟩ := h
  have a1 : (k - la).toInt = k.toInt - la.toInt := i_sub (by omega) (by omega)
  have a2 : (k - la - sp).toInt = k.toInt - la.toInt - sp.toInt := by rw [i_sub (by omega) (by omega), a1]
  rw [Bool.eq_iff_iff]
  unfold kpB
  rw [decide_eq_true_eq, decide_eq_true_eq, i_le, a2]
  omega
theorem tw_take {α : Type} (p : α → Bool) : ∀ l : List α, l.take (l.takeWhile p).length = l.takeWhile p := by
  intro l
  induction l with
  | nil => rfl
  | cons a l ih =>
    rw [List.takeWhile_cons]
    by_cases h : p a = true
    · rw [if_pos h, List.length_cons, List.take_succ_cons, ih]
    · rw [if_neg h]; rfl
theorem tw_all {α : Type} (p : α → Bool) : ∀ l : List α, ∀ x ∈ l.takeWhile p, p x = true := by
  intro l
  induction l with
  | nil => intro x hx; cases hx
  | cons a l ih =>
    intro x hx
    rw [List.takeWhile_cons] at hx
    by_cases h : p a = true
    · rw [if_pos h] at hx
      rcases List.mem_cons.mp hx with hx | hx
      · rw [hx]; exact h
      · exact ih x hx
    · rw [if_neg h] at hx
      cases hx
theorem tw_rest {c : Int32} : ∀ {cs : List Nd}, (cs.map Prod.snd).Pairwise gLt → ∀ x ∈ cs.drop (cs.takeWhile (fun x : Nd => decide (x.2.1 ≤ c))).length, c.toInt < x.2.1.toInt := by
  intro cs
  induction cs with
  | nil => intro _ x hx; cases hx
  | cons a l ih =>
    intro hp x hx
    obtain ⟨hpa, hpl⟩ := List.pairwise_cons.mp (show (a.2 :: l.map Prod.snd).Pairwise gLt from hp)
    rw [List.takeWhile_cons] at hx
    by_cases h : decide (a.2.1 ≤ c) = true
    · rw [if_pos h, List.length_cons, List.drop_succ_cons] at hx
      exact ih hpl x hx
    · rw [if_neg h] at hx
      have ha : ¬ a.2.1.toInt ≤ c.toInt := fun q => h (decide_eq_true (i_le.mpr q))
      rcases List.mem_cons.mp (show x ∈ a :: l from hx) with hx | hx
      · rw [hx]; omega
      · rcases hpa x.2 (List.mem_map_of_mem hx) with q | ⟨q, _⟩
        · omega
        · rw [← q]; omega
theorem wcn_wc {e : Int32} : ∀ {cs : List Nd} {p : Int32}, wcn e p cs = wc p ((cs.takeWhile (fun x : Nd => decide (x.2.1 ≤ e))).map Prod.snd) := by
  intro cs
  induction cs with
  | nil => intro p; rfl
  | cons a l ih =>
    intro p
    rw [wcn_cons, List.takeWhile_cons]
    by_cases h : a.2.1 ≤ e
    · rw [if_pos h, if_pos (decide_eq_true h)]
      show _ = (if p = a.2.1 then 0 else 1) + wc a.2.1 ((l.takeWhile (fun x : Nd => decide (x.2.1 ≤ e))).map Prod.snd)
      rw [ih]
      by_cases hq : p = a.2.1
      · rw [if_pos hq, if_pos hq]; omega
      · rw [if_neg hq, if_neg hq]; omega
    · rw [if_neg h, if_neg (by rw [decide_eq_false h]; decide)]
      rfl
theorem wc_len : ∀ {l : List Grp} {p : Int32}, wc p l ≤ l.length := by
  intro l
  induction l with
  | nil => intro p; exact Nat.le_refl _
  | cons a l ih =>
    intro p
    have := ih (p := a.1)
    show (if p = a.1 then 0 else 1) + wc a.1 l ≤ l.length + 1
    split <;> omega
theorem tw_max : ∀ cs : List Nd, cs.takeWhile (fun x : Nd => decide (x.2.1 ≤ 2147483647)) = cs := by
  intro cs
  induction cs with
  | nil => rfl
  | cons a l ih =>
    have h : a.2.1 ≤ (2147483647 : Int32) := i_le.mpr (by
      have := i_rng a.2.1
      have c : (2147483647 : Int32).toInt = 2147483647 := by decide
      omega)
    rw [List.takeWhile_cons, if_pos (decide_eq_true h), ih]
theorem fnd_none {e k : Int32} : ∀ {T : List Nd} {x : Nd}, (T.map Prod.snd).Pairwise gLt → fnd e k (lb e k x T).2 = none → ∀ z ∈ T, ¬ (z.2.1 = e ∧ z.2.2.1 = k) := by
  intro T
  induction T with
  | nil => intro x _ _ z hz; cases hz
  | cons y t ih =>
    intro x hp hf z hz
    obtain ⟨hpy, hpt⟩ := List.pairwise_cons.mp (show (y.2 :: t.map Prod.snd).Pairwise gLt from hp)
    rw [lb_cons] at hf
    by_cases hb : bef y.2 e k = true
    · rw [if_pos hb] at hf
      rcases List.mem_cons.mp hz with hz | hz
      · rw [hz]; exact bef_no hb
      · exact ih hpt hf z hz
    · rw [if_neg hb] at hf
      have hf : (if isof y.2 e k then some y.1 else none) = none := hf
      have ho : ¬ isof y.2 e k = true := fun q => by rw [if_pos q] at hf; cases hf
      have haf := bef_aft hb ho
      rcases List.mem_cons.mp hz with hz | hz
      · rw [hz]; exact fun q => ho (isof_iff.mpr q)
      · rintro ⟨q1, q2⟩
        have h9 := hpy z.2 (List.mem_map_of_mem hz)
        rcases haf with h | ⟨h, h'⟩ <;> rcases h9 with h8 | ⟨h8, h8'⟩
        · rw [q1] at h8; omega
        · rw [h8, q1] at h; omega
        · rw [q1, ← h] at h8; omega
        · rw [q2] at h8'; omega
theorem fnd_some {e k : Int32} {a : Nat} : ∀ {T : List Nd} {x : Nd}, fnd e k (lb e k x T).2 = some a → ∃ g, (a, g) ∈ T ∧ g.1 = e ∧ g.2.1 = k := by
  intro T
  induction T with
  | nil => intro x hf; cases hf
  | cons y t ih =>
    intro x hf
    rw [lb_cons] at hf
    by_cases hb : bef y.2 e k = true
    · rw [if_pos hb] at hf
      obtain ⟨g, hg, h1⟩ := ih hf
      exact ⟨g, List.mem_cons_of_mem _ hg, h1⟩
    · rw [if_neg hb] at hf
      have hf : (if isof y.2 e k then some y.1 else none) = some a := hf
      by_cases ho : isof y.2 e k = true
      · rw [if_pos ho] at hf
        cases hf
        exact ⟨y.2, List.mem_cons_self, isof_iff.mp ho⟩
      · rw [if_neg ho] at hf
        cases hf
