/-! A value into the groups: which groups stand there behind it. -/
theorem bef_iff {g : Grp} {e k : Int32} : bef g e k = true ↔ g.1.toInt < e.toInt ∨ (g.1 = e ∧ g.2.1.toInt < k.toInt) := by
  unfold bef
  rw [Bool.or_eq_true, Bool.and_eq_true, decide_eq_true_eq, decide_eq_true_eq, decide_eq_true_eq, i_lt, i_lt]
theorem isof_iff {g : Grp} {e k : Int32} : isof g e k = true ↔ g.1 = e ∧ g.2.1 = k := by
  unfold isof
  rw [Bool.and_eq_true, decide_eq_true_eq, decide_eq_true_eq]
theorem bef_no {g : Grp} {e k : Int32} (hb : bef g e k = true) : ¬ (g.1 = e ∧ g.2.1 = k) := by
  rintro ⟨h1, h2⟩
  rcases bef_iff.mp hb with h | ⟨_, h⟩
  · rw [h1] at h; omega
  · rw [h2] at h; omega
/-- neither before nor the group itself: behind it -/
theorem bef_aft {g : Grp} {e k : Int32} (hb : ¬ bef g e k = true) (ho : ¬ isof g e k = true) : e.toInt < g.1.toInt ∨ (e = g.1 ∧ k.toInt < g.2.1.toInt) := by
  have h1 : ¬ (g.1.toInt < e.toInt ∨ (g.1 = e ∧ g.2.1.toInt < k.toInt)) := fun q => hb (bef_iff.mpr q)
  have h2 : ¬ (g.1 = e ∧ g.2.1 = k) := fun q => ho (isof_iff.mpr q)
  by_cases hg : g.1 = e
  · right
    refine ⟨hg.symm, ?_⟩
    have h3 : ¬ g.2.1.toInt < k.toInt := fun q => h1 (Or.inr ⟨hg, q⟩)
    have h4 : ¬ g.2.1.toInt = k.toInt := fun q => h2 ⟨hg, i_eq.mpr q⟩
    omega
  · left
    have h3 : ¬ g.1.toInt < e.toInt := fun q => h1 (Or.inl q)
    have h4 : ¬ g.1.toInt = e.toInt := fun q => hg (i_eq.mpr q)
    omega
theorem gLt_trans {a b c : Grp} (h1 : gLt a b) (h2 : gLt b c) : gLt a c := by
  rcases h1 with h1 | ⟨h1, h1'⟩ <;> rcases h2 with h2 | ⟨h2, h2'⟩
  · exact Or.inl (by omega)
  · exact Or.inl (by rw [← h2]; exact h1)
  · exact Or.inl (by rw [h1]; exact h2)
  · exact Or.inr ⟨h1.trans h2, by omega⟩
theorem gLt_no {a b : Grp} (h : gLt a b) : ¬ (a.1 = b.1 ∧ a.2.1 = b.2.1) := by
  rintro ⟨h1, h2⟩
  rcases h with h | ⟨_, h⟩
  · rw [h1] at h; omega
  · rw [h2] at h; omega
theorem ups_mem {e k v : Int32} : ∀ {G : List Grp}, G.Pairwise gLt → ∀ g, g ∈ ups e k v G ↔ (g ∈ G ∧ ¬ (g.1 = e ∧ g.2.1 = k)) ∨ (∃ g0 ∈ G, g0.1 = e ∧ g0.2.1 = k ∧ g = gth g0 v) ∨ ((∀ g0 ∈ G, ¬ (g0.1 = e ∧ g0.2.1 = k)) ∧ g = gth (g_nw e k) v) := by
  intro G
  induction G with
  | nil =>
    intro _ g
    show g ∈ [gth (g_nw e k) v] ↔ _
    constructor
    · intro h
      exact Or.inr (Or.inr ⟨fun g0 h0 => absurd h0 List.not_mem_nil, List.mem_singleton.mp h⟩)
    · rintro (⟨h, _⟩ | ⟨g0, h, _⟩ | ⟨_, h⟩)
      · exact absurd h List.not_mem_nil
      · exact absurd h List.not_mem_nil
      · rw [h]; exact List.mem_singleton.mpr rfl
  | cons y t ih =>
    intro hp g
    obtain ⟨hpy, hpt⟩ := List.pairwise_cons.mp hp
    show g ∈ (if bef y e k then y :: ups e k v t else if isof y e k then gth y v :: t else gth (g_nw e k) v :: y :: t) ↔ _
    by_cases hb : bef y e k = true
    · rw [if_pos hb, List.mem_cons, ih hpt g]
      have hy := bef_no hb
      constructor
      · rintro (h | ⟨h1, h2⟩ | ⟨g0, h0, h1⟩ | ⟨h1, h2⟩)
        · exact Or.inl ⟨by rw [h]; exact List.mem_cons_self, by rw [h]; exact hy⟩
        · exact Or.inl ⟨List.mem_cons_of_mem _ h1, h2⟩
        · exact Or.inr (Or.inl ⟨g0, List.mem_cons_of_mem _ h0, h1⟩)
        · refine Or.inr (Or.inr ⟨fun g0 h0 => ?_, h2⟩)
          rcases List.mem_cons.mp h0 with h0 | h0
          · rw [h0]; exact hy
          · exact h1 g0 h0
      · rintro (⟨h1, h2⟩ | ⟨g0, h0, h1, h2, h3⟩ | ⟨h1, h2⟩)
        · rcases List.mem_cons.mp h1 with h1 | h1
          · exact Or.inl h1
          · exact Or.inr (Or.inl ⟨h1, h2⟩)
        · rcases List.mem_cons.mp h0 with h0 | h0
          · subst h0; exact absurd ⟨h1, h2⟩ hy
          · exact Or.inr (Or.inr (Or.inl ⟨g0, h0, h1, h2, h3⟩))
        · exact Or.inr (Or.inr (Or.inr ⟨fun g0 h0 => h1 g0 (List.mem_cons_of_mem _ h0), h2⟩))
    · rw [if_neg hb]
      by_cases ho : isof y e k = true
      · rw [if_pos ho, List.mem_cons]
        obtain ⟨hy1, hy2⟩ := isof_iff.mp ho
        have hno : ∀ g0 ∈ t, ¬ (g0.1 = e ∧ g0.2.1 = k) := fun g0 h0 q => gLt_no (hpy g0 h0) ⟨hy1.trans q.1.symm, hy2.trans q.2.symm⟩
        constructor
        · rintro (h | h)
          · exact Or.inr (Or.inl ⟨y, List.mem_cons_self, hy1, hy2, h⟩)
          · exact Or.inl ⟨List.mem_cons_of_mem _ h, hno g h⟩
        · rintro (⟨h1, h2⟩ | ⟨g0, h0, h1, h2, h3⟩ | ⟨h1, h2⟩)
          · rcases List.mem_cons.mp h1 with h1 | h1
            · rw [h1] at h2; exact absurd ⟨hy1, hy2⟩ h2
            · exact Or.inr h1
          · rcases List.mem_cons.mp h0 with h0 | h0
            · rw [h0] at h3; exact Or.inl h3
            · exact absurd ⟨h1, h2⟩ (hno g0 h0)
          · exact absurd ⟨hy1, hy2⟩ (h1 y List.mem_cons_self)
      · rw [if_neg ho, List.mem_cons]
        have haf := bef_aft hb ho
        have hno : ∀ g0 ∈ y :: t, ¬ (g0.1 = e ∧ g0.2.1 = k) := by
          intro g0 h0 q
          rcases List.mem_cons.mp h0 with h0 | h0
          · rw [h0] at q
            exact ho (isof_iff.mpr q)
          · have h9 := hpy g0 h0
            obtain ⟨q1, q2⟩ := q
            rcases haf with h | ⟨h, h'⟩ <;> rcases h9 with h8 | ⟨h8, h8'⟩
            · rw [q1] at h8; omega
            · rw [h8, q1] at h; omega
            · rw [q1, ← h] at h8; omega
            · rw [q2] at h8'; omega
        constructor
        · rintro (h | h)
          · exact Or.inr (Or.inr ⟨hno, h⟩)
          · exact Or.inl ⟨h, hno g h⟩
        · rintro (⟨h1, _⟩ | ⟨g0, h0, h1, h2, _⟩ | ⟨_, h2⟩)
          · exact Or.inr h1
          · exact absurd ⟨h1, h2⟩ (hno g0 h0)
          · exact Or.inl h2
theorem ups_pw {e k v : Int32} : ∀ {G : List Grp}, G.Pairwise gLt → (ups e k v G).Pairwise gLt := by
  intro G
  induction G with
  | nil => intro _; exact List.pairwise_cons.mpr ⟨fun a h => absurd h List.not_mem_nil, List.Pairwise.nil⟩
  | cons y t ih =>
    intro hp
    obtain ⟨hpy, hpt⟩ := List.pairwise_cons.mp hp
    show (if bef y e k then y :: ups e k v t else if isof y e k then gth y v :: t else gth (g_nw e k) v :: y :: t).Pairwise gLt
    by_cases hb : bef y e k = true
    · rw [if_pos hb]
      refine List.pairwise_cons.mpr ⟨fun g hg => ?_, ih hpt⟩
      rcases (ups_mem hpt g).mp hg with ⟨h, _⟩ | ⟨g0, h, _, _, h3⟩ | ⟨_, h⟩
      · exact hpy g h
      · rw [h3]; exact hpy g0 h
      · rw [h]
        rcases bef_iff.mp hb with q | ⟨q1, q2⟩
        · exact Or.inl q
        · exact Or.inr ⟨q1, q2⟩
    · rw [if_neg hb]
      by_cases ho : isof y e k = true
      · rw [if_pos ho]
        exact List.pairwise_cons.mpr ⟨fun g hg => hpy g hg, hpt⟩
      · rw [if_neg ho]
        have haf := bef_aft hb ho
        have hy : gLt (gth (g_nw e k) v) y := by
          rcases haf with q | ⟨q1, q2⟩
          · exact Or.inl q
          · exact Or.inr ⟨q1, q2⟩
        refine List.pairwise_cons.mpr ⟨fun g hg => ?_, hp⟩
        rcases List.mem_cons.mp hg with h | h
        · rw [h]; exact hy
        · exact gLt_trans hy (hpy g h)
theorem ups_len {e k v : Int32} : ∀ {G : List Grp}, (ups e k v G).length ≤ G.length + 1 := by
  intro G
  induction G with
  | nil => exact Nat.le_refl _
  | cons y t ih =>
    show (if bef y e k then y :: ups e k v t else if isof y e k then gth y v :: t else gth (g_nw e k) v :: y :: t).length ≤ _
    split
    · show (ups e k v t).length + 1 ≤ t.length + 1 + 1; omega
    · split
      · show t.length + 1 ≤ t.length + 1 + 1; omega
      · exact Nat.le_refl _
theorem fold_len {k v : Int32} : ∀ {es : List Int32} {G : List Grp}, (es.foldl (fun gs e => ups e k v gs) G).length ≤ G.length + es.length := by
  intro es
  induction es with
  | nil => intro G; exact Nat.le_refl _
  | cons e es ih =>
    intro G
    have h1 := ih (G := ups e k v G)
    have h2 := ups_len (e := e) (k := k) (v := v) (G := G)
    show (es.foldl (fun gs e => ups e k v gs) (ups e k v G)).length ≤ G.length + (es.length + 1)
    omega
theorem endsF_len {t w sl : Int32} : ∀ {n : Nat} {b : Int32}, (endsF t w sl n b).length ≤ n := by
  intro n
  induction n with
  | zero => intro b; exact Nat.le_refl _
  | succ n ih =>
    intro b
    show (if b ≤ t then (b + w) :: endsF t w sl n (b + sl) else []).length ≤ _
    split
    · exact Nat.succ_le_succ ih
    · exact Nat.zero_le _
