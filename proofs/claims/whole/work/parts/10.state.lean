/-! The pictures: what the cells of an object hold, as lists. -/
def nwSQ : List Cond := [.methodLinkNest RX4 9 yX0_init "StreamQuery", .methodLinkNest RX4 21 yX2_init "StreamQuery", .methodLinkNest RX4 28 yX3_init "StreamQuery", .methodLinkNest RX3 22 yX4_isWithin "StreamQuery", .fieldLinkNest RX2 32 "StreamQuery$Group" "end" "I" "StreamQuery", .fieldLinkNest RX4 203 "StreamQuery$Group" "end" "I" "StreamQuery", .fieldLinkNest RX4 206 "StreamQuery$Group" "key" "I" "StreamQuery", .fieldLinkNest RX4 130 "StreamQuery$Group" "sum" "I" "StreamQuery", .fieldLinkNest RX4 135 "StreamQuery$Group" "many" "I" "StreamQuery", .fieldLinkNest RX4 138 "StreamQuery$Group" "greatest" "I" "StreamQuery", .fieldLinkNest RX2 21 "StreamQuery$Group" "next" "LStreamQuery$Group;" "StreamQuery"]
theorem nwSQ_ok : nwSQ.all j_nest = true := rfl
/-- a reading: the answer is v, nothing changes -/
def j_rd (v : Value) (M : jM) (n : Nat) : Option Value → jM → Nat → Prop := fun r M' n' => r = some v ∧ M = M' ∧ n = n'
abbrev Ev : Type := Int32 × Int32 × Int32
/-- an Events object at o with k events, its three rows behind it -/
def EvRaw (M : jM) (o : Nat) (ft fk fv : Nat → Int32) (k : Nat) : Prop := M o = some (.inr (0, [.ref (o + 1), .ref (o + 2), .ref (o + 3), .int (nI k)])) ∧ M (o + 1) = some (.inl (0, 200, .inl ft)) ∧ M (o + 2) = some (.inl (0, 200, .inl fk)) ∧ M (o + 3) = some (.inl (0, 200, .inl fv))
/-- the kept events of one stream: an object at o, its three rows behind it -/
def EvAt (M : jM) (o : Nat) (l : List Ev) : Prop := ∃ ft fk fv : Nat → Int32, M o = some (.inr (0, [.ref (o + 1), .ref (o + 2), .ref (o + 3), .int (nI l.length)])) ∧ M (o + 1) = some (.inl (0, 200, .inl ft)) ∧ M (o + 2) = some (.inl (0, 200, .inl fk)) ∧ M (o + 3) = some (.inl (0, 200, .inl fv)) ∧ l.length ≤ 200 ∧ ∀ i, i < l.length → l[i]? = some (ft i, fk i, fv i)
theorem EvAt.cell {M : jM} {o : Nat} {l : List Ev} (h : EvAt M o l) : M o = some (.inr (0, [.ref (o + 1), .ref (o + 2), .ref (o + 3), .int (nI l.length)])) := by
  obtain ⟨_, _, _, h0, _⟩ := h
  exact h0
theorem EvAt.len {M : jM} {o : Nat} {l : List Ev} (h : EvAt M o l) : l.length ≤ 200 := by
  obtain ⟨_, _, _, _, _, _, _, h, _⟩ := h
  exact h
theorem EvAt.frame {M M' : jM} {o : Nat} {l : List Ev} (h : EvAt M o l) (hf : ∀ q, o ≤ q → q ≤ o + 3 → M' q = M q) : EvAt M' o l := by
  obtain ⟨ft, fk, fv, h0, h1, h2, h3, h4, h5⟩ := h
  exact ⟨ft, fk, fv, by rw [hf o (by omega) (by omega)]; exact h0, by rw [hf (o + 1) (by omega) (by omega)]; exact h1, by rw [hf (o + 2) (by omega) (by omega)]; exact h2, by rw [hf (o + 3) (by omega) (by omega)]; exact h3, h4, h5⟩
theorem ev_push {l : List Ev} {ft fk fv : Nat → Int32} {a b v : Int32} (h : ∀ i, i < l.length → l[i]? = some (ft i, fk i, fv i)) : ∀ i, i < (l ++ [(a, b, v)]).length → (l ++ [(a, b, v)])[i]? = some (upd ft l.length a i, upd fk l.length b i, upd fv l.length v i) := by
  intro i hi
  rw [List.length_append] at hi
  have hi : i < l.length + 1 := hi
  by_cases h1 : i < l.length
  · rw [List.getElem?_append_left h1, h i h1]
    have : i ≠ l.length := by omega
    simp [upd, this]
  · have h2 : i = l.length := by omega
    subst h2
    simp [upd]
theorem EvAt.push {M' : jM} {o : Nat} {l : List Ev} {ft fk fv : Nat → Int32} {a b v : Int32} (hr : EvRaw M' o (upd ft l.length a) (upd fk l.length b) (upd fv l.length v) (l.length + 1)) (hlt : l.length < 200) (hl : ∀ i, i < l.length → l[i]? = some (ft i, fk i, fv i)) : EvAt M' o (l ++ [(a, b, v)]) := by
  obtain ⟨h0, h1, h2, h3⟩ := hr
  exact ⟨_, _, _, by rw [List.length_append]; exact h0, h1, h2, h3, by rw [List.length_append]; show l.length + 1 ≤ 200; omega, ev_push hl⟩
/-- an event with this key that is at most sp away in time -/
def nr (t k sp : Int32) (e : Ev) : Bool := decide (e.2.1 = k) && decide ((if 0 ≤ e.1 - t then e.1 - t else 0 - (e.1 - t)) ≤ sp)
theorem nr_T {t k sp : Int32} {e : Ev} (h1 : e.2.1 = k) (h2 : ¬ sp < (if 0 ≤ e.1 - t then e.1 - t else 0 - (e.1 - t))) : (if nr t k sp e then (1 : Int32) else 0) = 1 := by
  have h3 := Int32.not_lt.mp h2
  unfold nr
  rw [decide_eq_true h1, decide_eq_true h3]
  rfl
theorem nr_F1 {t k sp : Int32} {e : Ev} (h1 : ¬ e.2.1 = k) : (if nr t k sp e then (1 : Int32) else 0) = 0 := by
  unfold nr
  rw [decide_eq_false h1]
  rfl
theorem nr_F2 {t k sp : Int32} {e : Ev} (h2 : sp < (if 0 ≤ e.1 - t then e.1 - t else 0 - (e.1 - t))) : (if nr t k sp e then (1 : Int32) else 0) = 0 := by
  have h3 := Int32.not_le.mpr h2
  unfold nr
  rw [decide_eq_false h3, Bool.and_false]
  rfl
theorem take_count {l : List Ev} {p : Ev → Bool} {i : Nat} {e : Ev} (h : l[i]? = some e) : (l.take (i + 1)).countP p = (l.take i).countP p + (if p e then 1 else 0) := by
  have hl := (List.getElem?_eq_some_iff.mp h)
  obtain ⟨hlt, he⟩ := hl
  rw [List.take_add_one, h]
  simp [List.countP_append, List.countP_cons]
theorem filter_take {l : List Ev} {p : Ev → Bool} {i : Nat} {e : Ev} (h : l[i]? = some e) : (l.take (i + 1)).filter p = (l.take i).filter p ++ (if p e then [e] else []) := by
  rw [List.take_add_one, h, List.filter_append]
  cases hp : p e <;> simp [hp]
