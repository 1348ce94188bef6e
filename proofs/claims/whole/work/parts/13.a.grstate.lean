/-! The groups: a chain of nodes, as a list of addresses and groups. -/
abbrev Grp : Type := Int32 × Int32 × Int32 × Int32 × Int32
abbrev Nd : Type := Nat × Grp
def gnode (g : Grp) (nx : Option Nat) : jE := .inr (1, [.int g.1, .int g.2.1, .int g.2.2.1, .int g.2.2.2.1, .int g.2.2.2.2, va_rf nx])
def g_hd : Grp := (-2147483648, -2147483648, 0, 0, -2147483648)
/-- from the reference r over the nodes of the list to the reference r2 -/
def Seg (M : jM) : Option Nat → List Nd → Option Nat → Prop
  | r, [], r2 => r = r2
  | r, x :: t, r2 => r = some x.1 ∧ ∃ nx, M x.1 = some (gnode x.2 nx) ∧ Seg M nx t r2
theorem Seg.app {M : jM} : ∀ {a b : List Nd} {r r2 : Option Nat}, Seg M r (a ++ b) r2 ↔ ∃ r1, Seg M r a r1 ∧ Seg M r1 b r2 := by
  intro a
  induction a with
  | nil => intro b r r2; exact ⟨fun h => ⟨r, rfl, h⟩, fun ⟨r1, h1, h2⟩ => by cases h1; exact h2⟩
  | cons x t ih =>
    intro b r r2
    constructor
    · rintro ⟨h1, nx, h2, h3⟩
      obtain ⟨r1, g1, g2⟩ := ih.mp h3
      exact ⟨r1, ⟨h1, nx, h2, g1⟩, g2⟩
    · rintro ⟨r1, ⟨h1, nx, h2, g1⟩, g2⟩
      exact ⟨h1, nx, h2, ih.mpr ⟨r1, g1, g2⟩⟩
theorem Seg.frame {M M' : jM} : ∀ {a : List Nd} {r r2 : Option Nat}, Seg M r a r2 → (∀ x ∈ a, M' x.1 = M x.1) → Seg M' r a r2 := by
  intro a
  induction a with
  | nil => intro r r2 h _; exact h
  | cons x t ih =>
    rintro r r2 ⟨h1, nx, h2, h3⟩ hf
    exact ⟨h1, nx, by rw [hf x List.mem_cons_self]; exact h2, ih h3 (fun y hy => hf y (List.mem_cons_of_mem _ hy))⟩
theorem Seg.mem {M : jM} : ∀ {a : List Nd} {r r2 : Option Nat}, Seg M r a r2 → ∀ x ∈ a, ∃ nx, M x.1 = some (gnode x.2 nx) := by
  intro a
  induction a with
  | nil => intro r r2 _ x hx; cases hx
  | cons y t ih =>
    rintro r r2 ⟨h1, nx, h2, h3⟩ x hx
    rcases List.mem_cons.mp hx with rfl | hx
    · exact ⟨nx, h2⟩
    · exact ih h3 x hx
def bef (g : Grp) (e k : Int32) : Bool := decide (g.1 < e) || (decide (g.1 = e) && decide (g.2.1 < k))
def isof (g : Grp) (e k : Int32) : Bool := decide (g.1 = e) && decide (g.2.1 = k)
/-- the last node before (e, k), from x on, and what stands behind it -/
def lb (e k : Int32) : Nd → List Nd → Nd × List Nd
  | x, [] => (x, [])
  | x, y :: t => if bef y.2 e k then lb e k y t else (x, y :: t)
theorem lb_cons {e k : Int32} {x y : Nd} {t : List Nd} : lb e k x (y :: t) = if bef y.2 e k then lb e k y t else (x, y :: t) := rfl
theorem lb_seg {M : jM} {e k : Int32} : ∀ {t : List Nd} {x : Nd}, Seg M (some x.1) (x :: t) none → Seg M (some (lb e k x t).1.1) ((lb e k x t).1 :: (lb e k x t).2) none := by
  intro t
  induction t with
  | nil => intro x h; exact h
  | cons y t ih =>
    intro x h
    unfold lb
    by_cases hb : bef y.2 e k = true
    · rw [if_pos hb]
      obtain ⟨_, nx, _, h3⟩ := h
      obtain ⟨h4, h5⟩ := h3
      exact ih ⟨rfl, h5⟩
    · rw [if_neg hb]
      exact h
theorem lb_app {e k : Int32} : ∀ {t : List Nd} {x : Nd}, ∃ pre, x :: t = pre ++ (lb e k x t).1 :: (lb e k x t).2 := by
  intro t
  induction t with
  | nil => intro x; exact ⟨[], rfl⟩
  | cons y t ih =>
    intro x
    unfold lb
    by_cases hb : bef y.2 e k = true
    · rw [if_pos hb]
      obtain ⟨pre, hp⟩ := ih (x := y)
      exact ⟨x :: pre, by rw [hp]; rfl⟩
    · rw [if_neg hb]
      exact ⟨[], rfl⟩
/-- what a value does to a group -/
def gth (g : Grp) (v : Int32) : Grp := (g.1, g.2.1, g.2.2.1 + v, g.2.2.2.1 + 1, if g.2.2.2.2 < v then v else g.2.2.2.2)
theorem bef_T1 {g : Grp} {e k : Int32} (h : g.1 < e) : (if bef g e k then (1 : Int32) else 0) = 1 := by simp [bef, h]
theorem bef_T3 {g : Grp} {e k : Int32} (_ : ¬ g.1 < e) (h2 : g.1 = e) (h3 : ¬ k ≤ g.2.1) : (if bef g e k then (1 : Int32) else 0) = 1 := by simp [bef, h2, Int32.not_le.mp h3]
theorem bef_F2 {g : Grp} {e k : Int32} (h : ¬ g.1 < e) (h2 : ¬ g.1 = e) : (if bef g e k then (1 : Int32) else 0) = 0 := by simp [bef, h, h2]
theorem bef_F3 {g : Grp} {e k : Int32} (h : ¬ g.1 < e) (_ : g.1 = e) (h3 : k ≤ g.2.1) : (if bef g e k then (1 : Int32) else 0) = 0 := by simp [bef, h, Int32.not_lt.mpr h3]
/-- a Groups object at o, its first node (none of them) behind it -/
def GrAt (M : jM) (o : Nat) (cs : List Nd) : Prop := M o = some (.inr (2, [.ref (o + 1)])) ∧ Seg M (some (o + 1)) ((o + 1, g_hd) :: cs) none
theorem GrAt.frame {M M' : jM} {o : Nat} {cs : List Nd} (h : GrAt M o cs) (hf : ∀ q, (q = o ∨ q = o + 1 ∨ ∃ z ∈ cs, z.1 = q) → M' q = M q) : GrAt M' o cs := by
  refine ⟨by rw [hf o (Or.inl rfl)]; exact h.1, h.2.frame (fun x hx => ?_)⟩
  rcases List.mem_cons.mp hx with rfl | hx
  · exact hf _ (Or.inr (Or.inl rfl))
  · exact hf _ (Or.inr (Or.inr ⟨x, hx, rfl⟩))
/-- the node sought, if it stands first behind -/
def fnd (e k : Int32) : List Nd → Option Nat
  | [] => none
  | y :: _ => if isof y.2 e k then some y.1 else none
/-- how many ends up to e stand in the chain, the one before being p -/
def wcn (e : Int32) : Int32 → List Nd → Nat
  | _, [] => 0
  | p, y :: t => if y.2.1 ≤ e then (if p = y.2.1 then wcn e y.2.1 t else wcn e y.2.1 t + 1) else 0
theorem wcn_cons {e p : Int32} {y : Nd} {t : List Nd} : wcn e p (y :: t) = if y.2.1 ≤ e then (if p = y.2.1 then wcn e y.2.1 t else wcn e y.2.1 t + 1) else 0 := rfl
/-- behind placeFrom: the group was there, or a new node stands behind the last one before it -/
def placed (M : jM) (n : Nat) (e k : Int32) (R : Nd × List Nd) : Option Value → jM → Nat → Prop := fun r M' n' =>
  (∃ y t, R.2 = y :: t ∧ isof y.2 e k = true ∧ r = some (.ref y.1) ∧ M = M' ∧ n = n') ∨
  ((∀ y t, R.2 = y :: t → isof y.2 e k = false) ∧ r = some (.ref n) ∧ n' = n + 1 ∧ M' n = some (gnode (e, k, 0, 0, -2147483648) (R.2.head?.map Prod.fst)) ∧ M' R.1.1 = some (gnode R.1.2 (some n)) ∧ ∀ q, q ≠ n → q ≠ R.1.1 → M' q = M q)
