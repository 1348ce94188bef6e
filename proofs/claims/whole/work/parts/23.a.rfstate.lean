/-- the reference: its object at m, its arrays behind it -/
def RF (M : jM) (m : Nat) (w sl la sp rm ln mA mB lt pr tl tk : Int32) (A B : List Ev) (qu : List Rec) : Prop := ∃ (sm my gr rc : Int32) (ft fk fv kp mk qa : Nat → Int32), M m = some (rfO m w sl la sp rm ln (nI qu.length) lt pr tl tk sm my gr rc) ∧ RA M m ft fk fv kp mk qa ∧ RLs ft fk fv kp mk qa mA mB A B qu
theorem RF.frame {M M' : jM} {m : Nat} {w sl la sp rm ln mA mB lt pr tl tk : Int32} {A B : List Ev} {qu : List Rec} (h : RF M m w sl la sp rm ln mA mB lt pr tl tk A B qu) (hf : ∀ q, m ≤ q → q ≤ m + 6 → M' q = M q) : RF M' m w sl la sp rm ln mA mB lt pr tl tk A B qu := by
  obtain ⟨sm, my, gr, rc, ft, fk, fv, kp, mk, qa, h0, ⟨h1, h2, h3, h4, h5, h6⟩, hL⟩ := h
  exact ⟨sm, my, gr, rc, ft, fk, fv, kp, mk, qa, by rw [hf m (by omega) (by omega)]; exact h0, ⟨by rw [hf _ (by omega) (by omega)]; exact h1, by rw [hf _ (by omega) (by omega)]; exact h2, by rw [hf _ (by omega) (by omega)]; exact h3, by rw [hf _ (by omega) (by omega)]; exact h4, by rw [hf _ (by omega) (by omega)]; exact h5, by rw [hf _ (by omega) (by omega)]; exact h6⟩, hL⟩
theorem kpA_1 {w sl la sp k t : Int} (h : k - la ≤ t + sp) : (if kpA w sl la sp k t then (1 : Int32) else 0) = 1 := by
  unfold kpA
  rw [decide_eq_true h]
  rfl
theorem kpA_2 {w sl la sp k t : Int} (h : ¬ lastE w sl t + la ≤ k) : (if kpA w sl la sp k t then (1 : Int32) else 0) = 1 := by
  unfold kpA
  rw [decide_eq_false h, Bool.not_false, Bool.or_true]
  rfl
theorem kpA_0 {w sl la sp k t : Int} (h : ¬ k - la ≤ t + sp) (h2 : lastE w sl t + la ≤ k) : (if kpA w sl la sp k t then (1 : Int32) else 0) = 0 := by
  unfold kpA
  rw [decide_eq_false h, decide_eq_true h2]
  rfl
theorem kpB_1 {la sp k t : Int} (h : k - la ≤ t + sp) : (if kpB la sp k t then (1 : Int32) else 0) = 1 := by
  unfold kpB
  rw [decide_eq_true h]
  rfl
theorem kpB_0 {la sp k t : Int} (h : ¬ k - la ≤ t + sp) : (if kpB la sp k t then (1 : Int32) else 0) = 0 := by
  unfold kpB
  rw [decide_eq_false h]
  rfl
theorem ev_push2 {l : List Ev} {bs : Nat} {ft fk fv : Nat → Int32} {a b v : Int32} (h : ∀ i, i < l.length → l[i]? = some (ft (bs + i), fk (bs + i), fv (bs + i))) : ∀ i, i < (l ++ [(a, b, v)]).length → (l ++ [(a, b, v)])[i]? = some (upd ft (bs + l.length) a (bs + i), upd fk (bs + l.length) b (bs + i), upd fv (bs + l.length) v (bs + i)) := by
  intro i hi
  rw [List.length_append] at hi
  have hi : i < l.length + 1 := hi
  by_cases h1 : i < l.length
  · rw [List.getElem?_append_left h1, h i h1]
    have hne : bs + i ≠ bs + l.length := by omega
    simp only [upd, if_neg hne]
  · have h2 : i = l.length := by omega
    subst h2
    simp [upd]
theorem q_push {recs : List Rec} {arr : Nat → Int32} (h : ∀ i, i < recs.length → recs[i]? = some (rowAt arr (6 * i))) (a b c d e f : Int32) :
    ∀ i, i < (recs ++ [(a, b, c, d, e, f)]).length → (recs ++ [(a, b, c, d, e, f)])[i]? = some (rowAt (upd (upd (upd (upd (upd (upd arr (6 * recs.length) a) (6 * recs.length + 1) b) (6 * recs.length + 2) c) (6 * recs.length + 3) d) (6 * recs.length + 4) e) (6 * recs.length + 5) f) (6 * i)) := by
  intro i hi
  rw [List.length_append] at hi
  have hi : i < recs.length + 1 := hi
  by_cases h1 : i < recs.length
  · rw [List.getElem?_append_left h1, h i h1, rowAt_other]
    omega
  · have h2 : i = recs.length := by omega
    subst h2
    rw [rowAt_self]
    simp
/-- near, by the reference's numbers and by the class's -/
theorem near_iff {t k sp : Int32} {e : Ev} (ht : -1000000000 ≤ t.toInt ∧ t.toInt ≤ 1000000000) (he : -1000000000 ≤ e.1.toInt ∧ e.1.toInt ≤ 1000000000) : (k = e.2.1 ∧ t.toInt - e.1.toInt ≤ sp.toInt ∧ -(t.toInt - e.1.toInt) ≤ sp.toInt) ↔ nr t k sp e = true := by
  unfold nr
  rw [Bool.and_eq_true, decide_eq_true_eq, decide_eq_true_eq]
  have hd : (e.1 - t).toInt = e.1.toInt - t.toInt := i_sub (by omega) (by omega)
  have hd2 : (0 - (e.1 - t)).toInt = -(e.1.toInt - t.toInt) := by
    rw [i_sub (by rw [hd, Int32.toInt_zero]; omega) (by rw [hd, Int32.toInt_zero]; omega), hd, Int32.toInt_zero]
    omega
  by_cases h0 : 0 ≤ e.1 - t
  · rw [if_pos h0, i_le, hd]
    have := i_le.mp h0
    rw [hd, Int32.toInt_zero] at this
    constructor
    · rintro ⟨h1, h2, h3⟩; exact ⟨h1.symm, by omega⟩
    · rintro ⟨h1, h2⟩; exact ⟨h1.symm, by omega, by omega⟩
  · rw [if_neg h0, i_le, hd2]
    have : ¬ 0 ≤ e.1.toInt - t.toInt := fun q => h0 (i_le.mpr (by rw [hd, Int32.toInt_zero]; exact q))
    constructor
    · rintro ⟨h1, h2, h3⟩; exact ⟨h1.symm, by omega⟩
    · rintro ⟨h1, h2⟩; exact ⟨h1.symm, by omega, by omega⟩
