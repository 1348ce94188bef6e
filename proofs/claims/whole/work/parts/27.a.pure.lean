/-! Windows and groups, as integers and lists. -/
theorem i_lge (a b : Int) : a < b ∨ b ≤ a := by omega
def inW (w t z : Int) : Prop := t < z ∧ z - w ≤ t
def isW (w sl z : Int) : Prop := (z - w) % sl = 0
/-- sum, how many, greatest of the events with this key in the window that ends at z, as they came -/
def aggS (w z : Int) (k : Int32) (s : Int32 × Int32 × Int32) (e : Ev) : Int32 × Int32 × Int32 := if (e.1.toInt < z ∧ z - w ≤ e.1.toInt) ∧ e.2.1 = k then (s.1 + e.2.2, s.2.1 + 1, if s.2.1 = 0 ∨ s.2.2 < e.2.2 then e.2.2 else s.2.2) else s
def agg (w z : Int) (k : Int32) (A : List Ev) : Int32 × Int32 × Int32 := A.foldl (aggS w z k) (0, 0, 0)
def gLt (a b : Grp) : Prop := a.1.toInt < b.1.toInt ∨ (a.1 = b.1 ∧ a.2.1.toInt < b.2.1.toInt)
/-- the groups of all windows that end above τ: rising; each has events, and holds what they make; none is wanting -/
def GL (w sl τ : Int) (A : List Ev) (G : List Grp) : Prop :=
  G.Pairwise gLt ∧ (∀ g ∈ G, isW w sl g.1.toInt ∧ τ < g.1.toInt ∧ (∃ e ∈ A, inW w e.1.toInt g.1.toInt ∧ e.2.1 = g.2.1) ∧ g.2.2 = agg w g.1.toInt g.2.1 A) ∧
  (∀ e ∈ A, ∀ z : Int, isW w sl z → inW w e.1.toInt z → τ < z → ∃ g ∈ G, g.1.toInt = z ∧ g.2.1 = e.2.1)
theorem gR_agg {w z : Int} {k : Int32} {ft fk fv : Nat → Int32} {A : List Ev} (hA : ∀ i, i < A.length → A[i]? = some (ft i, fk i, fv i)) : ∀ i, i ≤ A.length → gR w ft fk fv z k i = agg w z k (A.take i) := by
  intro i
  induction i with
  | zero => intro _; rfl
  | succ i ih =>
    intro hi
    have he := hA i (by omega)
    rw [gR_succ, take_snoc he, ih (by omega)]
    unfold agg
    rw [List.foldl_append]
    rfl
/-- an end of a window of time t is one of the sixteen that the reference looks at -/
theorem end_j {w sl t z : Int} (hw : 1 ≤ w) (hs : 1 ≤ sl) (h16 : w ≤ 16 * sl) (hz : isW w sl z) (hin : inW w t z) : ∃ j : Nat, j < 16 ∧ z = lastE w sl t - j * sl := by
  obtain ⟨h1, h2⟩ := hin
  have hd := Int.mul_ediv_add_emod t sl
  have hm1 := Int.emod_nonneg t (show sl ≠ 0 by omega)
  have hm2 := Int.emod_lt_of_pos t (show 0 < sl by omega)
  obtain ⟨q, hq⟩ := Int.dvd_of_emod_eq_zero hz
  have hle : q ≤ t / sl := by
    have : q * sl ≤ t := by rw [Int.mul_comm]; omega
    exact Int.le_ediv_of_mul_le (by omega) this
  have hzq : z = sl * q + w := by omega
  have hlast : lastE w sl t = sl * (t / sl) + w := by unfold lastE; omega
  have hdiff : sl * (t / sl - q) = sl * (t / sl) - sl * q := Int.mul_sub sl _ _
  have hlt : t / sl - q < 16 := by
    rcases i_lge (t / sl - q) 16 with h | h
    · exact h
    · have : sl * 16 ≤ sl * (t / sl - q) := Int.mul_le_mul_of_nonneg_left h (by omega)
      omega
  refine ⟨(t / sl - q).toNat, by omega, ?_⟩
  have hc : (((t / sl - q).toNat : Nat) : Int) = t / sl - q := by omega
  rw [hc, hlast, Int.mul_comm (t / sl - q) sl, hdiff]
  omega
theorem j_end_w {w sl t : Int} (hs : 1 ≤ sl) (j : Nat) : isW w sl (lastE w sl t - j * sl) := by
  unfold isW lastE
  have hd := Int.mul_ediv_add_emod t sl
  have : t - t % sl + w - j * sl - w = sl * (t / sl - j) := by
    rw [Int.mul_sub, Int.mul_comm sl (j : Int)]
    omega
  rw [this]
  exact Int.mul_emod_right _ _
/-- the inner loop of nextEnd: the least of the first ends above b, and of what was best -/
theorem nEin_spec {w sl t b : Int} : ∀ {j : Nat} {best : Int}, nEin w sl t b j best ≤ best ∧ (nEin w sl t b j best = best ∨ ∃ i : Nat, i < j ∧ nEin w sl t b j best = lastE w sl t - i * sl ∧ inW w t (lastE w sl t - i * sl) ∧ b < lastE w sl t - i * sl) ∧ ∀ i : Nat, i < j → inW w t (lastE w sl t - i * sl) → b < lastE w sl t - i * sl → nEin w sl t b j best ≤ lastE w sl t - i * sl := by
  intro j
  induction j with
  | zero => intro best; exact ⟨Int.le_refl _, Or.inl rfl, fun i hi => absurd hi (Nat.not_lt_zero i)⟩
  | succ j ih =>
    intro best
    obtain ⟨h1, h2, h3⟩ := ih (best := best)
    rw [nEin_succ]
    split
    · rename_i hc
      refine ⟨by omega, Or.inr ⟨j, by omega, rfl, hc.1, hc.2.1⟩, fun i hi hin hb => ?_⟩
      by_cases hij : i = j
      · subst hij; exact Int.le_refl _
      · have := h3 i (by omega) hin hb
        omega
    · rename_i hc
      refine ⟨h1, ?_, fun i hi hin hb => ?_⟩
      · rcases h2 with h | ⟨i, hi, hr⟩
        · exact Or.inl h
        · exact Or.inr ⟨i, by omega, hr⟩
      · by_cases hij : i = j
        · subst hij
          rcases i_lge (lastE w sl t - i * sl) (nEin w sl t b i best) with h | h
          · exact absurd ⟨hin, hb, h⟩ hc
          · exact h
        · exact h3 i (by omega) hin hb
theorem nE_spec {w sl b : Int} {ft : Nat → Int32} (hw : 1 ≤ w) (hs : 1 ≤ sl) (h16 : w ≤ 16 * sl) : ∀ {a : Nat}, nE w sl ft b a ≤ 4000000000 ∧ (nE w sl ft b a = 4000000000 ∨ ∃ i, i < a ∧ isW w sl (nE w sl ft b a) ∧ inW w (ft i).toInt (nE w sl ft b a) ∧ b < nE w sl ft b a) ∧ ∀ i, i < a → ∀ z, isW w sl z → inW w (ft i).toInt z → b < z → nE w sl ft b a ≤ z := by
  intro a
  induction a with
  | zero => exact ⟨Int.le_refl _, Or.inl rfl, fun i hi => absurd hi (Nat.not_lt_zero i)⟩
  | succ a ih =>
    obtain ⟨h1, h2, h3⟩ := ih
    obtain ⟨g1, g2, g3⟩ := nEin_spec (w := w) (sl := sl) (t := (ft a).toInt) (b := b) (j := 16) (best := nE w sl ft b a)
    show nEin w sl (ft a).toInt b 16 (nE w sl ft b a) ≤ _ ∧ (nEin w sl (ft a).toInt b 16 (nE w sl ft b a) = _ ∨ ∃ i, i < a + 1 ∧ isW w sl (nEin w sl (ft a).toInt b 16 (nE w sl ft b a)) ∧ inW w (ft i).toInt (nEin w sl (ft a).toInt b 16 (nE w sl ft b a)) ∧ b < nEin w sl (ft a).toInt b 16 (nE w sl ft b a)) ∧ ∀ i, i < a + 1 → ∀ z, isW w sl z → inW w (ft i).toInt z → b < z → nEin w sl (ft a).toInt b 16 (nE w sl ft b a) ≤ z
    refine ⟨by omega, ?_, fun i hi z hz hin hb => ?_⟩
    · rcases g2 with g | ⟨i, hi, ge, gin, gb⟩
      · rw [g]
        rcases h2 with h | ⟨i, hi, hr⟩
        · exact Or.inl h
        · exact Or.inr ⟨i, by omega, hr⟩
      · refine Or.inr ⟨a, by omega, ?_⟩
        rw [ge]
        exact ⟨j_end_w hs i, gin, gb⟩
    · by_cases hia : i = a
      · subst hia
        obtain ⟨j, hj, rfl⟩ := end_j hw hs h16 hz hin
        exact g3 j hj hin hb
      · have := h3 i (by omega) z hz hin hb
        omega
theorem nK_spec {w e b : Int} {ft fk : Nat → Int32} : ∀ {a : Nat}, nK w ft fk e b a ≤ 4000000000 ∧ (nK w ft fk e b a = 4000000000 ∨ ∃ i, i < a ∧ inW w (ft i).toInt e ∧ (fk i).toInt = nK w ft fk e b a ∧ b < nK w ft fk e b a) ∧ ∀ i, i < a → inW w (ft i).toInt e → b < (fk i).toInt → nK w ft fk e b a ≤ (fk i).toInt := by
  intro a
  induction a with
  | zero => exact ⟨Int.le_refl _, Or.inl rfl, fun i hi => absurd hi (Nat.not_lt_zero i)⟩
  | succ a ih =>
    obtain ⟨h1, h2, h3⟩ := ih
    have hr := i_rng (fk a)
    rw [nK_succ]
    split
    · rename_i hc
      refine ⟨by omega, Or.inr ⟨a, by omega, hc.1, rfl, hc.2.1⟩, fun i hi hin hb => ?_⟩
      by_cases hia : i = a
      · subst hia; exact Int.le_refl _
      · have := h3 i (by omega) hin hb
        omega
    · rename_i hc
      refine ⟨h1, ?_, fun i hi hin hb => ?_⟩
      · rcases h2 with h | ⟨i, hi, hr⟩
        · exact Or.inl h
        · exact Or.inr ⟨i, by omega, hr⟩
      · by_cases hia : i = a
        · subst hia
          rcases i_lge (fk i).toInt (nK w ft fk e b i) with h | h
          · exact absurd ⟨hin, hb, h⟩ hc
          · exact h
        · exact h3 i (by omega) hin hb
/-- how many ends stand in a list of groups, the one before being p -/
def wc : Int32 → List Grp → Nat
  | _, [] => 0
  | p, g :: t => (if p = g.1 then 0 else 1) + wc g.1 t
theorem wc_app {z : Int32} : ∀ {l m : List Grp} {p : Int32}, p ≠ z → (∀ g ∈ l, g.1 ≠ z) → m ≠ [] → (∀ g ∈ m, g.1 = z) → wc p (l ++ m) = wc p l + 1 := by
  intro l
  induction l with
  | nil =>
    intro m p hp _ hm hz
    have hall : ∀ m : List Grp, (∀ g ∈ m, g.1 = z) → wc z m = 0 := by
      intro m
      induction m with
      | nil => intro _; rfl
      | cons g t ih =>
        intro h
        have hg := h g List.mem_cons_self
        show (if z = g.1 then 0 else 1) + wc g.1 t = 0
        rw [if_pos hg.symm, hg, ih (fun x hx => h x (List.mem_cons_of_mem _ hx))]
    cases m with
    | nil => exact absurd rfl hm
    | cons g t =>
      have hg := hz g List.mem_cons_self
      show (if p = g.1 then 0 else 1) + wc g.1 t = 0 + 1
      rw [hg, if_neg hp, hall t (fun x hx => hz x (List.mem_cons_of_mem _ hx))]
  | cons a l ih =>
    intro m p hp hl hm hz
    show (if p = a.1 then 0 else 1) + wc a.1 (l ++ m) = (if p = a.1 then 0 else 1) + wc a.1 l + 1
    rw [ih (hl a List.mem_cons_self) (fun g hg => hl g (List.mem_cons_of_mem _ hg)) hm hz]
    omega
theorem wc_0 {p : Int32} : wc p [] = 0 := rfl
