/-- behind gather: the chain holds these groups; below nb nothing changed but the head -/
def gathd (M : jM) (n x nb : Nat) (gs : List Grp) : Option Value → jM → Nat → Prop := fun r M' n' =>
  r = none ∧ n ≤ n' ∧ ∃ cs' : List Nd, GrAt M' (x + 9) cs' ∧ cs'.map Prod.snd = gs ∧ (cs'.map Prod.fst).Nodup ∧ (∀ z ∈ cs', nb ≤ z.1) ∧ ∀ q, q < nb → q ≠ x + 9 + 1 → M' q = M q
theorem fold_hd {k v : Int32} : ∀ {es : List Int32} {gs : List Grp}, (∀ e ∈ es, bef g_hd e k = true) → es.foldl (fun gs e => ups e k v gs) (g_hd :: gs) = g_hd :: es.foldl (fun gs e => ups e k v gs) gs := by
  intro es
  induction es with
  | nil => intro gs _; rfl
  | cons e es ih =>
    intro gs h
    rw [List.foldl_cons, List.foldl_cons]
    show es.foldl _ (if bef g_hd e k then g_hd :: ups e k v gs else _) = _
    rw [if_pos (h e List.mem_cons_self)]
    exact ih (fun f hf => h f (List.mem_cons_of_mem _ hf))
theorem endsF_hd {t w sl k : Int32} (ht : t.toInt ≤ 1000000000) : ∀ {n : Nat} {b : Int32}, okB w sl b → ∀ e ∈ endsF t w sl n b, bef g_hd e k = true := by
  intro n
  induction n with
  | zero => intro b _ e he; cases he
  | succ n ih =>
    intro b hb e he
    by_cases hbt : b ≤ t
    · rw [endsF_T hbt] at he
      rcases List.mem_cons.mp he with rfl | he
      · exact hb.hd ht hbt
      · exact ih (hb.step ht hbt).1 e he
    · rw [endsF_F hbt] at he
      cases he
theorem gathd_end {M Mi : jM} {n ni x nb : Nat} {P T cs1 cs : List Nd} {c1 : Nd} {k v : Int32} {es : List Int32} (hg : M (x + 9) = some (.inr (2, [.ref (x + 9 + 1)]))) (hxn : x + 13 ≤ nb) (hnn : nb ≤ n) (hs : Seg Mi (some (x + 9 + 1)) (P ++ c1 :: T) none) (hcs : P ++ c1 :: T = (x + 9 + 1, g_hd) :: cs1) (hnodup : ((P ++ c1 :: T).map Prod.fst).Nodup) (hnb1 : ∀ y ∈ cs1, nb ≤ y.1)
    (hfold : (P ++ c1 :: T).map Prod.snd = es.foldl (fun gs e => ups e k v gs) (((x + 9 + 1, g_hd) :: cs).map Prod.snd)) (hes : ∀ e ∈ es, bef g_hd e k = true) (hfr : ∀ q, q < nb → q ≠ x + 9 + 1 → Mi q = M q) (hni : n ≤ ni) : gathd M n x nb (es.foldl (fun gs e => ups e k v gs) (cs.map Prod.snd)) none Mi ni := by
  rw [hcs] at hs hnodup hfold
  refine ⟨rfl, hni, cs1, ⟨by rw [hfr (x + 9) (by omega) (by omega)]; exact hg, hs⟩, ?_, (List.nodup_cons.mp hnodup).2, hnb1, hfr⟩
  have h1 : g_hd :: cs1.map Prod.snd = es.foldl (fun gs e => ups e k v gs) (g_hd :: cs.map Prod.snd) := hfold
  rw [fold_hd hes] at h1
  exact (List.cons.inj h1).2
