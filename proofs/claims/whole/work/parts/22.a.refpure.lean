/-! The reference's functions, as it computes them. -/
def j_sub : List (Option Value) → List (Option Value) → Prop
  | [], _ => True
  | none :: t, _ :: u => j_sub t u
  | some v :: t, some x :: u => v = x ∧ j_sub t u
  | _, _ => False
theorem j_sub_get : ∀ {L2 L : List (Option Value)}, j_sub L2 L → ∀ (i : Nat) (v : Value), L2[i]? = some (some v) → L[i]? = some (some v)
  | [], _, _, i, v, h => by simp at h
  | none :: t, y :: u, hs, i, v, h => by
    cases i with
    | zero => simp at h
    | succ i =>
      rw [List.getElem?_cons_succ] at h ⊢
      exact j_sub_get (L2 := t) (L := u) hs i v h
  | some a :: t, some x :: u, hs, i, v, h => by
    cases i with
    | zero =>
      rw [List.getElem?_cons_zero] at h ⊢
      rw [← hs.1]
      exact h
    | succ i =>
      rw [List.getElem?_cons_succ] at h ⊢
      exact j_sub_get (L2 := t) (L := u) hs.2 i v h
  | none :: t, [], hs, i, v, h => by cases hs
  | some a :: t, [], hs, i, v, h => by cases hs
  | some a :: t, none :: u, hs, i, v, h => by cases hs
section JM3
variable {p : Program} {l : Launch} {e : Env} {R : Room} {s : State} {m : MethodId} {args : Array Value} {below : List Frame} {meth : Method} {c : Code} {D : va_G} {ty : jT} {cl : List vw_C} {nw : List Cond} {b0 : Nat} {Q : State → Prop} {nL : Nat} {M : jM} {n cells slots pc : Nat} {L L2 : List (Option Value)} {st : List Value}
/-- locals may be forgotten -/
theorem j_wk (h : j_sub L2 L) (k : J p l e R s m args below meth c D ty cl b0 Q nL M n cells slots pc L2 st) : J p l e R s m args below meth c D ty cl b0 Q nL M n cells slots pc L st := fun H locs ls hH hS hL => k H locs ls hH hS ⟨hL.1, hL.2.1, fun i v hi => hL.2.2 i v (j_sub_get h i v hi)⟩
end JM3
def nEin (w sl t b : Int) : Nat → Int → Int
  | 0, best => best
  | j + 1, best => if (t < lastE w sl t - j * sl ∧ lastE w sl t - j * sl - w ≤ t) ∧ b < lastE w sl t - j * sl ∧ lastE w sl t - j * sl < nEin w sl t b j best then lastE w sl t - j * sl else nEin w sl t b j best
def nE (w sl : Int) (ft : Nat → Int32) (b : Int) : Nat → Int
  | 0 => 4000000000
  | i + 1 => nEin w sl (ft i).toInt b 16 (nE w sl ft b i)
def nK (w : Int) (ft fk : Nat → Int32) (e b : Int) : Nat → Int
  | 0 => 4000000000
  | i + 1 => if ((ft i).toInt < e ∧ e - w ≤ (ft i).toInt) ∧ b < (fk i).toInt ∧ (fk i).toInt < nK w ft fk e b i then (fk i).toInt else nK w ft fk e b i
def gR (w : Int) (ft fk fv : Nat → Int32) (e : Int) (k : Int32) : Nat → Int32 × Int32 × Int32
  | 0 => (0, 0, 0)
  | i + 1 => if ((ft i).toInt < e ∧ e - w ≤ (ft i).toInt) ∧ fk i = k then ((gR w ft fk fv e k i).1 + fv i, (gR w ft fk fv e k i).2.1 + 1, if (gR w ft fk fv e k i).2.1 = 0 ∨ (gR w ft fk fv e k i).2.2 < fv i then fv i else (gR w ft fk fv e k i).2.2) else gR w ft fk fv e k i
theorem nK_succ (w : Int) (ft fk : Nat → Int32) (e b : Int) (i : Nat) : nK w ft fk e b (i + 1) = if ((ft i).toInt < e ∧ e - w ≤ (ft i).toInt) ∧ b < (fk i).toInt ∧ (fk i).toInt < nK w ft fk e b i then (fk i).toInt else nK w ft fk e b i := rfl
theorem gR_succ (w : Int) (ft fk fv : Nat → Int32) (e : Int) (k : Int32) (i : Nat) : gR w ft fk fv e k (i + 1) = if ((ft i).toInt < e ∧ e - w ≤ (ft i).toInt) ∧ fk i = k then ((gR w ft fk fv e k i).1 + fv i, (gR w ft fk fv e k i).2.1 + 1, if (gR w ft fk fv e k i).2.1 = 0 ∨ (gR w ft fk fv e k i).2.2 < fv i then fv i else (gR w ft fk fv e k i).2.2) else gR w ft fk fv e k i := rfl
theorem nEin_succ (w sl t b : Int) (j : Nat) (best : Int) : nEin w sl t b (j + 1) best = if (t < lastE w sl t - j * sl ∧ lastE w sl t - j * sl - w ≤ t) ∧ b < lastE w sl t - j * sl ∧ lastE w sl t - j * sl < nEin w sl t b j best then lastE w sl t - j * sl else nEin w sl t b j best := rfl
def okN (w sl : Int32) : Prop := (1 ≤ w.toInt ∧ w.toInt ≤ 1000000) ∧ (1 ≤ sl.toInt ∧ sl.toInt ≤ 1000000)
def okts (ft : Nat → Int32) (a : Nat) : Prop := ∀ i, i < a → -1000000000 ≤ (ft i).toInt ∧ (ft i).toInt ≤ 1000000000
theorem lastE_rng {w sl t : Int} (hw : 1 ≤ w ∧ w ≤ 1000000) (hs : 1 ≤ sl ∧ sl ≤ 1000000) (ht : -1000000000 ≤ t ∧ t ≤ 1000000000) : -1001000000 ≤ lastE w sl t ∧ lastE w sl t ≤ 1001000000 := by
  have h1 := Int.emod_nonneg t (show sl ≠ 0 by omega)
  have h2 := Int.emod_lt_of_pos t (show 0 < sl by omega)
  unfold lastE
  omega
theorem jsl_rng {sl : Int} (hs : 1 ≤ sl ∧ sl ≤ 1000000) {j : Nat} (hj : j ≤ 16) : 0 ≤ (j : Int) * sl ∧ (j : Int) * sl ≤ 16000000 := by
  constructor
  · exact Int.mul_nonneg (by omega) (by omega)
  · have : (j : Int) * sl ≤ 16 * 1000000 := Int.mul_le_mul (by omega) hs.2 (by omega) (by omega)
    omega
theorem nEin_rng {w sl t b : Int} (hw : 1 ≤ w ∧ w ≤ 1000000) (hs : 1 ≤ sl ∧ sl ≤ 1000000) (ht : -1000000000 ≤ t ∧ t ≤ 1000000000) : ∀ {j : Nat} {best : Int}, j ≤ 16 → -4000000000 ≤ best ∧ best ≤ 4000000000 → -4000000000 ≤ nEin w sl t b j best ∧ nEin w sl t b j best ≤ 4000000000 := by
  intro j
  induction j with
  | zero => intro best _ h; exact h
  | succ j ih =>
    intro best hj hb
    have h1 := ih (show j ≤ 16 by omega) hb
    have h2 := lastE_rng hw hs ht
    have h3 := jsl_rng hs (show j ≤ 16 by omega)
    unfold nEin
    split
    · omega
    · exact h1
theorem nE_rng {w sl : Int} {ft : Nat → Int32} {b : Int} (hw : 1 ≤ w ∧ w ≤ 1000000) (hs : 1 ≤ sl ∧ sl ≤ 1000000) : ∀ {i : Nat}, okts ft i → -4000000000 ≤ nE w sl ft b i ∧ nE w sl ft b i ≤ 4000000000 := by
  intro i
  induction i with
  | zero => intro _; show (-4000000000 : Int) ≤ 4000000000 ∧ (4000000000 : Int) ≤ 4000000000; omega
  | succ i ih =>
    intro h
    exact nEin_rng hw hs (h i (by omega)) (by decide) (ih (fun j hj => h j (by omega)))
theorem nK_rng {w : Int} {ft fk : Nat → Int32} {e b : Int} : ∀ {i : Nat}, -4000000000 ≤ nK w ft fk e b i ∧ nK w ft fk e b i ≤ 4000000000 := by
  intro i
  induction i with
  | zero => show (-4000000000 : Int) ≤ 4000000000 ∧ (4000000000 : Int) ≤ 4000000000; omega
  | succ i ih =>
    have := i_rng (fk i)
    unfold nK
    split
    · omega
    · exact ih
/-- kept: by time and span, of A by its last window too -/
def kpB (la sp k t : Int) : Bool := decide (k - la ≤ t + sp)
def kpA (w sl la sp k t : Int) : Bool := decide (k - la ≤ t + sp) || !decide (lastE w sl t + la ≤ k)
