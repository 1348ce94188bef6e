/-! The judgement J: the machine at pc with locals L, operands st, over a MEMORY M (a function from addresses to cells) of n cells in all.
It hides the heap, the written places and the slots of the locals; every row below turns J at an instruction into J at the next. -/
abbrev jE : Type := (Nat × vp_A) ⊕ (Nat × List Value)
abbrev jM : Type := Nat → Option jE
abbrev jT : Type := List (ClassId × FieldType)
def j_e (ty : jT) (e : jE) : va_E := match e with
  | .inl x => .inl ((match ty[x.1]? with | some q => q.1 | none => 0), x.2)
  | .inr o => .inr o
def j_up (M : jM) (a : Nat) (e : jE) : jM := fun q => if q = a then some e else M q
theorem j_up_self (M : jM) (a : Nat) (e : jE) : j_up M a e a = some e := by simp [j_up]
theorem j_up_ne (M : jM) {a q : Nat} (e : jE) (h : q ≠ a) : j_up M a e q = M q := by simp [j_up, h]
/-- the heap has n cells and holds the memory, which lies at b0 and above -/
def j_H (D : va_G) (ty : jT) (cl : List vw_C) (b0 : Nat) (M : jM) (n : Nat) (H : Heap) : Prop := H.size = n ∧ b0 ≤ n ∧ ∃ ws : va_W, va_P D cl ws H ∧ va_D (fun q => b0 ≤ q) ws ∧ ∀ (a : Nat) (e : jE), M a = some e → ∃ k : Nat, ws[k]? = some (a, j_e ty e)
/-- the tables: classes, array classes, links to private members of nest mates -/
def j_K (D : va_G) (ty : jT) (cl : List vw_C) (nw : List Cond) (U : State) : Prop := va_K D cl ty U ∧ (∀ w ∈ nw, va_Nw w U) ∧ ∀ (k : Nat) (q : ClassId × FieldType), ty[k]? = some q → U.vm.findClass ("[" ++ q.2.toString) = some q.1
def j_L (ls : Array Slot) (nL : Nat) (L : List (Option Value)) : Prop := ls.size = nL ∧ lv_wf ls ∧ ∀ (i : Nat) (v : Value), L[i]? = some (some v) → ls[i]? = some (.val v)
/-- no half of a long or double stands before place i -/
def j_c2 (L : List (Option Value)) (i : Nat) : Bool := match i with
  | 0 => true
  | j + 1 => match L[j]? with
    | some (some v) => v.category == 1
    | _ => true
def j_as (L : List (Option Value)) : List (Nat × Value) := (List.range L.length).filterMap (fun i => match L[i]? with | some (some v) => some (i, v) | _ => none)
theorem j_as_mem {L : List (Option Value)} {i : Nat} {v : Value} (h : L[i]? = some (some v)) : (i, v) ∈ j_as L := by
  refine List.mem_filterMap.mpr ⟨i, List.mem_range.mpr (List.getElem?_eq_some_iff.mp h).1, ?_⟩
  rw [h]
theorem j_as_of {L : List (Option Value)} {q : Nat × Value} (h : q ∈ j_as L) : L[q.1]? = some (some q.2) := by
  obtain ⟨i, -, hi⟩ := List.mem_filterMap.mp h
  split at hi
  · rename_i v hv
    cases hi
    exact hv
  · cases hi
theorem j_L.has {ls : Array Slot} {nL : Nat} {L : List (Option Value)} (h : j_L ls nL L) : lv_has ls nL (j_as L) := ⟨h.1, h.2.1, fun q hq => h.2.2 q.1 q.2 (j_as_of hq)⟩
theorem j_L.store {ls' : Array Slot} {nL i : Nat} {v : Value} {L : List (Option Value)} (hc2 : j_c2 L i = true)
    (h : lv_has ls' nL ((i, v) :: (j_as L).filter (fun q => !(q.1 == i) && !(q.1 + 1 == i && q.2.category == 2)))) : j_L ls' nL (L.set i (some v)) := by
  refine ⟨h.1, h.2.1, fun j w hj => ?_⟩
  by_cases hij : i = j
  · subst hij
    have hl : i < L.length := by
      have := (List.getElem?_eq_some_iff.mp hj).1
      simpa using this
    rw [List.getElem?_set_self hl] at hj
    cases hj
    exact h.2.2 (i, v) List.mem_cons_self
  · rw [List.getElem?_set_ne hij] at hj
    refine h.2.2 (j, w) (List.mem_cons_of_mem _ (List.mem_filter.mpr ⟨j_as_mem hj, ?_⟩))
    have h1 : (j == i) = false := by simpa using fun q => hij q.symm
    have h2 : (j + 1 == i && w.category == 2) = false := by
      by_cases hk : j + 1 = i
      · subst hk
        have h3 : w.category = 1 := by
          simp only [j_c2, hj] at hc2
          simpa using hc2
        simp [h3]
      · simp [hk]
    simp [h1, h2]
theorem j_L.store2 {ls' : Array Slot} {nL i : Nat} {v : Value} {L : List (Option Value)} (hc2 : j_c2 L i = true)
    (h : lv_has ls' nL ((i, v) :: (j_as L).filter (fun q => !(q.1 == i) && (!(q.1 == i + 1) && !(q.1 + 1 == i && q.2.category == 2))))) : j_L ls' nL ((L.set i (some v)).set (i + 1) none) := by
  refine ⟨h.1, h.2.1, fun j w hj => ?_⟩
  by_cases hj1 : i + 1 = j
  · subst hj1
    by_cases hl : i + 1 < (L.set i (some v)).length
    · rw [List.getElem?_set_self hl] at hj
      cases hj
    · rw [List.getElem?_eq_none (by rw [List.length_set]; omega)] at hj
      cases hj
  · rw [List.getElem?_set_ne hj1] at hj
    by_cases hij : i = j
    · subst hij
      have hl : i < L.length := by
        have := (List.getElem?_eq_some_iff.mp hj).1
        simpa using this
      rw [List.getElem?_set_self hl] at hj
      cases hj
      exact h.2.2 (i, v) List.mem_cons_self
    · rw [List.getElem?_set_ne hij] at hj
      refine h.2.2 (j, w) (List.mem_cons_of_mem _ (List.mem_filter.mpr ⟨j_as_mem hj, ?_⟩))
      have h1 : (j == i) = false := by simpa using fun q => hij q.symm
      have h3 : (j == i + 1) = false := by simpa using fun q => hj1 q.symm
      have h2 : (j + 1 == i && w.category == 2) = false := by
        by_cases hk : j + 1 = i
        · subst hk
          have h3 : w.category = 1 := by
            simp only [j_c2, hj] at hc2
            simpa using hc2
          simp [h3]
        · simp [hk]
      simp [h1, h2, h3]
/-- what a method's walk stands on -/
def j_X (p : Program) (s : State) (m : MethodId) (args : Array Value) (c : Code) (cc : ByteArray) (nL : Nat) (own : String) (Ts : List Cond) (D : va_G) (ty : jT) (cl : List vw_C) (nw : List Cond) : Prop :=
  p.tables.exec = Jvm.exec ∧ c.code = cc ∧ c.maxLocals = nL ∧ s.vm.findClass own = some m.cls ∧ (∀ w ∈ Ts, w.before args s = true) ∧ j_K D ty cl nw s
def J (p : Program) (l : Launch) (e : Env) (R : Room) (s : State) (m : MethodId) (args : Array Value) (below : List Frame) (meth : Method) (c : Code) (D : va_G) (ty : jT) (cl : List vw_C) (b0 : Nat) (Q : State → Prop) (nL : Nat) (M : jM) (n cells slots pc : Nat) (L : List (Option Value)) (st : List Value) : Prop :=
  ∀ (H : Heap) (locs : List Loc) (ls : Array Slot), j_H D ty cl b0 M n H → va_S (fun q => b0 ≤ q) s.heap H locs → j_L ls nL L → W p l e R s m args below meth c H locs cells slots Q (F0 m pc ls st)
/-- a contract's end: what it answers, the memory behind it -/
def j_Q (D : va_G) (ty : jT) (cl : List vw_C) (b0 : Nat) (Rt : Option Value → jM → Nat → Prop) : Array Value → State → Outcome → State → Prop := fun _ st o t =>
  ∃ (r : Option Value) (M' : jM) (n' : Nat), o = .returned r ∧ Rt r M' n' ∧ j_H D ty cl b0 M' n' t.heap ∧ va_F (fun q => b0 ≤ q) st t
def j_P (D : va_G) (ty : jT) (cl : List vw_C) (nw : List Cond) (b0 : Nat) (as : List Value) (M : jM) (n : Nat) : Array Value → State → Prop := fun v U =>
  v = as.toArray ∧ j_H D ty cl b0 M n U.heap ∧ j_K D ty cl nw U
/-- THE CONTRACT of method y: called with 'as' over the memory M of n cells, with so much room -/
def Ct (l : Launch) (D : va_G) (ty : jT) (cl : List vw_C) (nw : List Cond) (b0 : Nat) (y : MethodName) (ws : List Cond) (fr lo mc ms : Nat) (as : List Value) (M : jM) (n : Nat) (Rt : Option Value → jM → Nat → Prop) : Prop :=
  Met l y ws { frames := fr, cells := mc, slots := ms, locals := lo } (j_P D ty cl nw b0 as M n) (j_Q D ty cl b0 Rt) mc ms (fun q => b0 ≤ q)
/-- the links that the tables keep over a walk -/
def j_nest : Cond → Bool
  | .fieldLinkNest .. => true
  | .methodLinkNest .. => true
  | _ => false
theorem j_K.warm {D : va_G} {ty : jT} {cl : List vw_C} {nw : List Cond} (hn : nw.all j_nest = true) {s U : State} (hW : s.WarmedH U.vm) (h : j_K D ty cl nw s) : j_K D ty cl nw U := by
  refine ⟨va_K.moved hW.alike h.1, fun w hw => ?_, fun k q hk => ?_⟩
  · have h1 := List.all_eq_true.mp hn w hw
    have h2 := h.2.1 w hw
    cases w <;> first | (simp [j_nest] at h1; done) | exact va_Nw.warmF hW h2 | exact va_Nw.warmM hW h2
  · rw [hW.alike.findClass]
    exact h.2.2 k q hk
