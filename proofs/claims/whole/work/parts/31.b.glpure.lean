/-! The groups' list is kept: by an event, by a mark. -/
def hit (w z : Int) (k : Int32) (e : Ev) : Prop := inW w e.1.toInt z ∧ e.2.1 = k
def hitB (w z : Int) (k : Int32) (e : Ev) : Bool := decide ((e.1.toInt < z ∧ z - w ≤ e.1.toInt) ∧ e.2.1 = k)
theorem hitB_iff {w z : Int} {k : Int32} {e : Ev} : hitB w z k e = true ↔ hit w z k e := decide_eq_true_iff
theorem agg_snoc {w z : Int} {k : Int32} {A : List Ev} {e : Ev} : agg w z k (A ++ [e]) = aggS w z k (agg w z k A) e := by
  unfold agg
  rw [List.foldl_append]
  rfl
theorem aggS_hit {w z : Int} {k : Int32} {s : Int32 × Int32 × Int32} {e : Ev} (h : hit w z k e) : aggS w z k s e = (s.1 + e.2.2, s.2.1 + 1, if s.2.1 = 0 ∨ s.2.2 < e.2.2 then e.2.2 else s.2.2) := if_pos h
theorem aggS_no {w z : Int} {k : Int32} {s : Int32 × Int32 × Int32} {e : Ev} (h : ¬ hit w z k e) : aggS w z k s e = s := if_neg h
theorem agg_cnt {w z : Int} {k : Int32} : ∀ {A : List Ev} {s : Int32 × Int32 × Int32}, (A.foldl (aggS w z k) s).2.1 = s.2.1 + nI (A.countP (hitB w z k)) := by
  intro A
  induction A with
  | nil => intro s; show s.2.1 = s.2.1 + 0; rw [Int32.add_zero]
  | cons e A ih =>
    intro s
    rw [List.foldl_cons, ih]
    by_cases h : hit w z k e
    · rw [aggS_hit h, List.countP_cons_of_pos (hitB_iff.mpr h), ← nI_1]
      show s.2.1 + 1 + _ = s.2.1 + (_ + 1)
      rw [Int32.add_assoc, Int32.add_comm 1]
    · rw [aggS_no h, List.countP_cons_of_neg (fun q => h (hitB_iff.mp q))]
theorem agg_nz {w z : Int} {k : Int32} {A : List Ev} (ha : A.length ≤ 200) (h : ∃ e ∈ A, hit w z k e) : ¬ (agg w z k A).2.1 = 0 := by
  unfold agg
  rw [agg_cnt]
  show ¬ 0 + _ = (0 : Int32)
  rw [Int32.zero_add]
  have h1 : 0 < A.countP (hitB w z k) := List.countP_pos_iff.mpr (by obtain ⟨e, he, hh⟩ := h; exact ⟨e, he, hitB_iff.mpr hh⟩)
  have h2 : A.countP (hitB w z k) ≤ A.length := List.countP_le_length
  exact nI_ne0 h1 (by omega)
theorem agg_0 {w z : Int} {k : Int32} {A : List Ev} (h : ∀ e ∈ A, ¬ hit w z k e) : agg w z k A = (0, 0, 0) := by
  unfold agg
  have : ∀ (A : List Ev) (s : Int32 × Int32 × Int32), (∀ e ∈ A, ¬ hit w z k e) → A.foldl (aggS w z k) s = s := by
    intro A
    induction A with
    | nil => intro s _; rfl
    | cons e A ih =>
      intro s h
      rw [List.foldl_cons, aggS_no (h e List.mem_cons_self)]
      exact ih s (fun e he => h e (List.mem_cons_of_mem _ he))
  exact this A _ h
theorem agg_filter {w z : Int} {k : Int32} {p : Ev → Bool} : ∀ {A : List Ev} {s : Int32 × Int32 × Int32}, (∀ e ∈ A, hit w z k e → p e = true) → (A.filter p).foldl (aggS w z k) s = A.foldl (aggS w z k) s := by
  intro A
  induction A with
  | nil => intro s _; rfl
  | cons e A ih =>
    intro s h
    have h2 := fun e he => h e (List.mem_cons_of_mem _ he)
    by_cases hp : p e = true
    · rw [List.filter_cons_of_pos hp, List.foldl_cons, List.foldl_cons]
      exact ih h2
    · rw [List.filter_cons_of_neg hp, List.foldl_cons, aggS_no (fun q => hp (h e List.mem_cons_self q))]
      exact ih h2
/-- the greatest, told from the least int on -/
theorem mx_min {v : Int32} : (if (-2147483648 : Int32) < v then v else -2147483648) = v := by
  by_cases h : (-2147483648 : Int32) < v
  · rw [if_pos h]
  · rw [if_neg h]
    have h1 : ¬ (-2147483648 : Int32).toInt < v.toInt := fun q => h (i_lt.mpr q)
    have h2 := i_rng v
    have h3 : (-2147483648 : Int32).toInt = -2147483648 := by decide
    exact i_eq.mpr (by omega)
/-- the groups while an event's ends are gone over: those in Dn are done -/
def GI (w sl τ : Int) (A : List Ev) (t k v : Int32) (Dn : List Int32) (G : List Grp) : Prop :=
  G.Pairwise gLt ∧ (∀ g ∈ G, isW w sl g.1.toInt ∧ τ < g.1.toInt ∧ (g.1 ∈ Dn ∧ g.2.1 = k → g.2.2 = agg w g.1.toInt k (A ++ [(t, k, v)])) ∧ (¬ (g.1 ∈ Dn ∧ g.2.1 = k) → (∃ e ∈ A, hit w g.1.toInt g.2.1 e) ∧ g.2.2 = agg w g.1.toInt g.2.1 A)) ∧
  (∀ e ∈ A, ∀ z : Int, isW w sl z → inW w e.1.toInt z → τ < z → ∃ g ∈ G, g.1.toInt = z ∧ g.2.1 = e.2.1) ∧ ∀ z ∈ Dn, ∃ g ∈ G, g.1 = z ∧ g.2.1 = k
theorem GI_step {w sl τ : Int} {A : List Ev} {t k v : Int32} {Dn : List Int32} {G : List Grp} {e : Int32} (ha : A.length ≤ 200) (h : GI w sl τ A t k v Dn G) (hn : e ∉ Dn) (hW : isW w sl e.toInt) (hin : inW w t.toInt e.toInt) (hτ : τ < e.toInt) : GI w sl τ A t k v (Dn ++ [e]) (ups e k v G) := by
  obtain ⟨h1, h2, h3, h4⟩ := h
  have hm := ups_mem (e := e) (k := k) (v := v) h1
  have hev : hit w e.toInt k (t, k, v) := ⟨hin, rfl⟩
  have hkeep : ∀ g ∈ G, ∃ g' ∈ ups e k v G, g'.1 = g.1 ∧ g'.2.1 = g.2.1 := by
    intro g hg
    by_cases hq : g.1 = e ∧ g.2.1 = k
    · exact ⟨gth g v, (hm _).mpr (Or.inr (Or.inl ⟨g, hg, hq.1, hq.2, rfl⟩)), rfl, rfl⟩
    · exact ⟨g, (hm _).mpr (Or.inl ⟨hg, hq⟩), rfl, rfl⟩
  refine ⟨ups_pw h1, fun g hg => ?_, fun e' he' z hz hi hz2 => ?_, fun z hz => ?_⟩
  · rcases (hm g).mp hg with ⟨hg, hq⟩ | ⟨g0, hg0, q1, q2, rfl⟩ | ⟨hno, rfl⟩
    · obtain ⟨a1, a2, a3, a4⟩ := h2 g hg
      refine ⟨a1, a2, fun hd => ?_, fun hd => ?_⟩
      · obtain ⟨hd1, hd2⟩ := hd
        rcases List.mem_append.mp hd1 with hd1 | hd1
        · exact a3 ⟨hd1, hd2⟩
        · exact absurd ⟨List.mem_singleton.mp hd1, hd2⟩ hq
      · exact a4 (fun q => hd ⟨List.mem_append_left _ q.1, q.2⟩)
    · obtain ⟨a1, a2, _, a4⟩ := h2 g0 hg0
      obtain ⟨b1, b2⟩ := a4 (fun q => hn (q1 ▸ q.1))
      refine ⟨a1, a2, fun _ => ?_, fun hd => absurd ⟨List.mem_append_right _ (List.mem_singleton.mpr q1), q2⟩ hd⟩
      show (g0.2.2.1 + v, g0.2.2.2.1 + 1, if g0.2.2.2.2 < v then v else g0.2.2.2.2) = agg w g0.1.toInt k (A ++ [(t, k, v)])
      rw [q1] at b1 b2 ⊢
      rw [q2] at b1 b2
      rw [agg_snoc, aggS_hit hev, b2]
      have hnz := agg_nz ha b1
      by_cases hl : (agg w e.toInt k A).2.2 < v
      · rw [if_pos hl, if_pos (Or.inr hl)]
      · rw [if_neg hl, if_neg (fun q => q.elim hnz hl)]
    · refine ⟨hW, hτ, fun _ => ?_, fun hd => absurd ⟨List.mem_append_right _ (List.mem_singleton.mpr rfl), rfl⟩ hd⟩
      have hA0 : agg w e.toInt k A = (0, 0, 0) := by
        refine agg_0 (fun e' he' hh => ?_)
        obtain ⟨g, hg, g1, g2⟩ := h3 e' he' e.toInt hW hh.1 hτ
        exact hno g hg ⟨i_eq.mpr g1, g2.trans hh.2⟩
      show ((0 : Int32) + v, (0 : Int32) + 1, if (-2147483648 : Int32) < v then v else -2147483648) = agg w e.toInt k (A ++ [(t, k, v)])
      rw [agg_snoc, aggS_hit hev, hA0, mx_min]
      show _ = ((0 : Int32) + v, (0 : Int32) + 1, if (0 : Int32) = 0 ∨ (0 : Int32) < v then v else 0)
      rw [if_pos (Or.inl rfl)]
  · obtain ⟨g, hg, g1, g2⟩ := h3 e' he' z hz hi hz2
    obtain ⟨g', hg', q1, q2⟩ := hkeep g hg
    exact ⟨g', hg', by rw [q1]; exact g1, q2.trans g2⟩
  · rcases List.mem_append.mp hz with hz | hz
    · obtain ⟨g, hg, g1, g2⟩ := h4 z hz
      obtain ⟨g', hg', q1, q2⟩ := hkeep g hg
      exact ⟨g', hg', q1.trans g1, q2.trans g2⟩
    · rw [List.mem_singleton.mp hz]
      by_cases hq : ∃ g0 ∈ G, g0.1 = e ∧ g0.2.1 = k
      · obtain ⟨g, hg, g1, g2⟩ := hq
        obtain ⟨g', hg', q1, q2⟩ := hkeep g hg
        exact ⟨g', hg', q1.trans g1, q2.trans g2⟩
      · exact ⟨gth (g_nw e k) v, (hm _).mpr (Or.inr (Or.inr ⟨fun g0 h0 q => hq ⟨g0, h0, q⟩, rfl⟩)), rfl, rfl⟩
theorem GI_fold {w sl τ : Int} {A : List Ev} {t k v : Int32} (ha : A.length ≤ 200) : ∀ {es Dn : List Int32} {G : List Grp}, GI w sl τ A t k v Dn G → es.Nodup → (∀ e ∈ es, e ∉ Dn) → (∀ e ∈ es, isW w sl e.toInt ∧ inW w t.toInt e.toInt ∧ τ < e.toInt) → GI w sl τ A t k v (Dn ++ es) (es.foldl (fun gs e => ups e k v gs) G) := by
  intro es
  induction es with
  | nil => intro Dn G h _ _ _; rw [List.append_nil]; exact h
  | cons e es ih =>
    intro Dn G h hnd hn hw
    obtain ⟨n1, n2⟩ := List.nodup_cons.mp hnd
    obtain ⟨w1, w2, w3⟩ := hw e List.mem_cons_self
    have h2 := GI_step ha h (hn e List.mem_cons_self) w1 w2 w3
    have h3 := ih h2 n2 (fun f hf q => by
      rcases List.mem_append.mp q with q | q
      · exact hn f (List.mem_cons_of_mem _ hf) q
      · rw [List.mem_singleton.mp q] at hf; exact n1 hf) (fun f hf => hw f (List.mem_cons_of_mem _ hf))
    rw [List.append_assoc] at h3
    exact h3
/-- an event comes: the groups of all that is kept, with it -/
theorem GL_add {w sl τ : Int} {A : List Ev} {t k v : Int32} {es : List Int32} {G : List Grp} (ha : A.length ≤ 200) (h : GL w sl τ A G) (hnd : es.Nodup) (hs : ∀ e ∈ es, isW w sl e.toInt ∧ inW w t.toInt e.toInt ∧ τ < e.toInt) (hc : ∀ z, isW w sl z → inW w t.toInt z → ∃ e ∈ es, e.toInt = z) : GL w sl τ (A ++ [(t, k, v)]) (es.foldl (fun gs e => ups e k v gs) G) := by
  obtain ⟨h1, h2, h3⟩ := h
  have h0 : GI w sl τ A t k v [] G := ⟨h1, fun g hg => by
    obtain ⟨a1, a2, a3, a4⟩ := h2 g hg
    exact ⟨a1, a2, fun q => absurd q.1 List.not_mem_nil, fun _ => ⟨a3, a4⟩⟩, h3, fun z hz => absurd hz List.not_mem_nil⟩
  obtain ⟨g1, g2, g3, g4⟩ := GI_fold ha h0 hnd (fun e _ => List.not_mem_nil) hs
  rw [List.nil_append] at g2 g4
  refine ⟨g1, fun g hg => ?_, fun e he z hz hin hτ => ?_⟩
  · obtain ⟨a1, a2, a3, a4⟩ := g2 g hg
    by_cases hd : g.1 ∈ es ∧ g.2.1 = k
    · refine ⟨a1, a2, ⟨(t, k, v), List.mem_append_right _ (List.mem_singleton.mpr rfl), (hs _ hd.1).2.1, hd.2.symm⟩, ?_⟩
      rw [a3 hd, hd.2]
    · obtain ⟨⟨e, he, hh⟩, b2⟩ := a4 hd
      refine ⟨a1, a2, ⟨e, List.mem_append_left _ he, hh.1, hh.2⟩, ?_⟩
      rw [b2, agg_snoc, aggS_no]
      rintro ⟨q1, q2⟩
      obtain ⟨f, hf, hfz⟩ := hc _ a1 q1
      exact hd ⟨(i_eq.mpr hfz) ▸ hf, q2.symm⟩
  · rcases List.mem_append.mp he with he | he
    · exact g3 e he z hz hin hτ
    · rw [List.mem_singleton.mp he] at hin ⊢
      obtain ⟨f, hf, hfz⟩ := hc z hz hin
      obtain ⟨g, hg, q1, q2⟩ := g4 f hf
      exact ⟨g, hg, by rw [q1]; exact hfz, q2⟩
theorem GL_nil {w sl τ : Int} : GL w sl τ [] [] := ⟨List.Pairwise.nil, fun g hg => absurd hg List.not_mem_nil, fun e he => absurd he List.not_mem_nil⟩
/-- an end of a window of time t is none behind the last -/
theorem end_le {w sl t z : Int} (hw : 1 ≤ w) (hs : 1 ≤ sl) (h16 : w ≤ 16 * sl) (hz : isW w sl z) (hin : inW w t z) : z ≤ lastE w sl t := by
  obtain ⟨j, _, hj⟩ := end_j hw hs h16 hz hin
  have : 0 ≤ (j : Int) * sl := Int.mul_nonneg (by omega) (by omega)
  omega
/-- a mark: the groups up to it go, and events that no window holds that is not over -/
theorem GL_mark {w sl τ τ2 : Int} {A : List Ev} {T U : List Grp} {p : Ev → Bool} (hw : 1 ≤ w) (hs : 1 ≤ sl) (h16 : w ≤ 16 * sl) (h : GL w sl τ A (T ++ U)) (hττ : τ ≤ τ2) (hT : ∀ g ∈ T, g.1.toInt ≤ τ2) (hU : ∀ g ∈ U, τ2 < g.1.toInt) (hp : ∀ e ∈ A, τ2 < lastE w sl e.1.toInt → p e = true) : GL w sl τ2 (A.filter p) U := by
  obtain ⟨h1, h2, h3⟩ := h
  refine ⟨(List.pairwise_append.mp h1).2.1, fun g hg => ?_, fun e he z hz hin hz2 => ?_⟩
  · obtain ⟨a1, _, ⟨e, he, hin, hk⟩, a4⟩ := h2 g (List.mem_append_right _ hg)
    have hgu := hU g hg
    have hl := end_le hw hs h16 a1 hin
    refine ⟨a1, hgu, ⟨e, List.mem_filter.mpr ⟨he, hp e he (by omega)⟩, hin, hk⟩, ?_⟩
    rw [a4]
    unfold agg
    refine (agg_filter (fun e' he' hh => hp e' he' ?_)).symm
    have := end_le hw hs h16 a1 hh.1
    omega
  · obtain ⟨he1, _⟩ := List.mem_filter.mp he
    obtain ⟨g, hg, g1, g2⟩ := h3 e he1 z hz hin (by omega)
    refine ⟨g, ?_, g1, g2⟩
    rcases List.mem_append.mp hg with hg | hg
    · have := hT g hg
      omega
    · exact hg
/-- the groups' list and look: not found, nothing there -/
theorem GL_none {w sl τ : Int} {A : List Ev} {G : List Grp} {e k : Int32} (h : GL w sl τ A G) (hno : ∀ g ∈ G, ¬ (g.1 = e ∧ g.2.1 = k)) (hW : isW w sl e.toInt) (hτ : τ < e.toInt) : agg w e.toInt k A = (0, 0, 0) := by
  refine agg_0 (fun e' he' hh => ?_)
  obtain ⟨g, hg, g1, g2⟩ := h.2.2 e' he' e.toInt hW hh.1 hτ
  exact hno g hg ⟨i_eq.mpr g1, g2.trans hh.2⟩
