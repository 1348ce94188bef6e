/-! The ends of an event's windows, as the class's loop goes over them. -/
def endsF (t w sl : Int32) : Nat → Int32 → List Int32
  | 0, _ => []
  | n + 1, b => if b ≤ t then (b + w) :: endsF t w sl n (b + sl) else []
theorem endsF_T {t w sl b : Int32} {n : Nat} (h : b ≤ t) : endsF t w sl (n + 1) b = (b + w) :: endsF t w sl n (b + sl) := by
  show (if b ≤ t then _ else _) = _
  rw [if_pos h]
theorem endsF_F {t w sl b : Int32} {n : Nat} (h : ¬ b ≤ t) : endsF t w sl n b = [] := by
  cases n with
  | zero => rfl
  | succ n =>
    show (if b ≤ t then _ else _) = _
    rw [if_neg h]
theorem bef_mono {g : Grp} {e f k : Int32} (h : bef g e k = true) (hef : e < f) : bef g f k = true := by
  unfold bef at h ⊢
  simp only [Bool.or_eq_true, Bool.and_eq_true, decide_eq_true_eq] at h ⊢
  rcases h with h | ⟨h, -⟩
  · exact Or.inl (Int32.lt_trans h hef)
  · exact Or.inl (h ▸ hef)
theorem bef_lt {g : Grp} {f k : Int32} (h : g.1 < f) : bef g f k = true := by
  unfold bef
  simp [h]
section JM2
variable {p : Program} {l : Launch} {e : Env} {R : Room} {s : State} {m : MethodId} {args : Array Value} {below : List Frame} {meth : Method} {c : Code} {D : va_G} {ty : jT} {cl : List vw_C} {nw : List Cond} {b0 : Nat} {Q : State → Prop} {nL : Nat} {M : jM} {n cells slots pc : Nat} {L : List (Option Value)} {st : List Value}
/-- all cells of the memory lie below n -/
theorem j_ltA (k : (∀ (a : Nat) (x : jE), M a = some x → b0 ≤ a ∧ a < n) → J p l e R s m args below meth c D ty cl b0 Q nL M n cells slots pc L st) : J p l e R s m args below meth c D ty cl b0 Q nL M n cells slots pc L st := fun H locs ls hH hS hL => k (fun _ _ h => hH.lt h) H locs ls hH hS hL
end JM2
/-- what a step of the class's loop asks of the numbers -/
def okB (w sl b : Int32) : Prop := 1 ≤ w.toInt ∧ w.toInt ≤ 1000000 ∧ 1 ≤ sl.toInt ∧ sl.toInt ≤ 1000000 ∧ -1002000000 ≤ b.toInt
theorem okB.step {t w sl b : Int32} (h : okB w sl b) (ht : t.toInt ≤ 1000000000) (hb : b ≤ t) : okB w sl (b + sl) ∧ b + w < b + sl + w := by
  obtain ⟨h1, h2, h3, h4, h5⟩ := h
  have hb := i_le.mp hb
  have e1 : (b + w).toInt = b.toInt + w.toInt := i_add (by omega) (by omega)
  have e2 : (b + sl).toInt = b.toInt + sl.toInt := i_add (by omega) (by omega)
  have e3 : (b + sl + w).toInt = b.toInt + sl.toInt + w.toInt := by rw [i_add (by omega) (by omega), e2]
  exact ⟨⟨h1, h2, h3, h4, by omega⟩, i_lt.mpr (by omega)⟩
theorem okB.hd {t w sl b k : Int32} (h : okB w sl b) (ht : t.toInt ≤ 1000000000) (hb : b ≤ t) : bef g_hd (b + w) k = true := by
  obtain ⟨h1, h2, h3, h4, h5⟩ := h
  have hb := i_le.mp hb
  have e1 : (b + w).toInt = b.toInt + w.toInt := i_add (by omega) (by omega)
  exact bef_lt (i_lt.mpr (by rw [e1]; show (-2147483648 : Int) < _; omega))
