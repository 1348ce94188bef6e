/-! The chain of groups under placing and gathering, as lists. -/
def g_nw (e k : Int32) : Grp := (e, k, 0, 0, -2147483648)
/-- a value into the group (e, k) of a list that rises -/
def ups (e k v : Int32) : List Grp → List Grp
  | [] => [gth (g_nw e k) v]
  | y :: t => if bef y e k then y :: ups e k v t else if isof y e k then gth y v :: t else gth (g_nw e k) v :: y :: t
theorem ups_bef {e k v : Int32} : ∀ {P T : List Grp}, (∀ y ∈ P, bef y e k = true) → ups e k v (P ++ T) = P ++ ups e k v T := by
  intro P
  induction P with
  | nil => intro T _; rfl
  | cons y P ih =>
    intro T h
    show (if bef y e k then y :: ups e k v (P ++ T) else _) = _
    rw [if_pos (h y List.mem_cons_self), ih (fun z hz => h z (List.mem_cons_of_mem _ hz))]
    rfl
theorem lb_split {e k : Int32} : ∀ (T : List Nd) (c : Nd), ∃ (pre : List Nd) (y : Nd) (rest : List Nd), lb e k c T = (y, rest) ∧ c :: T = pre ++ y :: rest ∧ (∀ z ∈ pre ++ [y], z = c ∨ bef z.2 e k = true) ∧ (∀ z r, rest = z :: r → bef z.2 e k = false) := by
  intro T
  induction T with
  | nil =>
    intro c
    exact ⟨[], c, [], rfl, rfl, fun z hz => Or.inl (by simpa using hz), fun z r h => by cases h⟩
  | cons y t ih =>
    intro c
    rw [lb_cons]
    by_cases hb : bef y.2 e k = true
    · rw [if_pos hb]
      obtain ⟨pre, y2, rest, h1, h2, h3, h4⟩ := ih y
      refine ⟨c :: pre, y2, rest, h1, by rw [h2]; rfl, fun z hz => ?_, h4⟩
      rcases List.mem_cons.mp hz with rfl | hz
      · exact Or.inl rfl
      · rcases h3 z hz with rfl | h
        · exact Or.inr hb
        · exact Or.inr h
    · rw [if_neg hb]
      refine ⟨[], c, y :: t, rfl, rfl, fun z hz => Or.inl (by simpa using hz), fun z r h => ?_⟩
      cases h
      simpa using hb
theorem Seg.upd {M M2 : jM} {z : Nd} {g : Grp} {nx : Option Nat} : ∀ {P R : List Nd} {r r2 : Option Nat}, Seg M r (P ++ z :: R) r2 → ((P ++ z :: R).map Prod.fst).Nodup → M z.1 = some (gnode z.2 nx) → M2 z.1 = some (gnode g nx) → (∀ q, q ≠ z.1 → M2 q = M q) → Seg M2 r (P ++ (z.1, g) :: R) r2 := by
  intro P
  induction P with
  | nil =>
    rintro R r r2 ⟨h1, n2, h2, h3⟩ hnd hz hz2 hf
    rw [hz] at h2
    have hnx : nx = n2 := by
      have h4 : gnode z.2 nx = gnode z.2 n2 := Option.some.inj h2
      unfold gnode at h4
      simp only [Sum.inr.injEq, Prod.mk.injEq, List.cons.injEq, true_and, and_true] at h4
      cases nx <;> cases n2 <;> simp [va_rf] at h4 ⊢
      exact h4
    subst hnx
    refine ⟨h1, nx, hz2, h3.frame (fun x hx => hf x.1 (fun q => ?_))⟩
    have hnd : (z.1 :: R.map Prod.fst).Nodup := hnd
    exact (List.nodup_cons.mp hnd).1 (q ▸ List.mem_map_of_mem hx)
  | cons y P ih =>
    rintro R r r2 ⟨h1, n2, h2, h3⟩ hnd hz hz2 hf
    have hnd : (y.1 :: (P ++ z :: R).map Prod.fst).Nodup := hnd
    have hne : y.1 ≠ z.1 := fun q => (List.nodup_cons.mp hnd).1 (q ▸ List.mem_map_of_mem (List.mem_append_right _ List.mem_cons_self))
    exact ⟨h1, n2, by rw [hf _ hne]; exact h2, ih h3 (List.nodup_cons.mp hnd).2 hz hz2 hf⟩
/-- a new node behind y -/
theorem Seg.ins {M M1 : jM} {n : Nat} {y : Nd} {g : Grp} : ∀ {P R : List Nd} {r : Option Nat}, Seg M r (P ++ y :: R) none → ((P ++ y :: R).map Prod.fst).Nodup → n ∉ (P ++ y :: R).map Prod.fst → M1 n = some (gnode g (R.head?.map Prod.fst)) → M1 y.1 = some (gnode y.2 (some n)) → (∀ q, q ≠ n → q ≠ y.1 → M1 q = M q) → Seg M1 r (P ++ y :: (n, g) :: R) none := by
  intro P
  induction P with
  | nil =>
    rintro R r ⟨h1, n2, h2, h3⟩ hnd hn hn1 hy1 hf
    have hnd : (y.1 :: R.map Prod.fst).Nodup := hnd
    have hn : n ∉ y.1 :: R.map Prod.fst := hn
    have hr : n2 = R.head?.map Prod.fst := by
      cases R with
      | nil => exact h3
      | cons a R => exact h3.1
    refine ⟨h1, some n, hy1, rfl, _, hn1, ?_⟩
    rw [← hr]
    refine h3.frame (fun x hx => hf x.1 (fun q => ?_) (fun q => ?_))
    · exact hn (List.mem_cons_of_mem _ (q ▸ List.mem_map_of_mem hx))
    · exact (List.nodup_cons.mp hnd).1 (q ▸ List.mem_map_of_mem hx)
  | cons a P ih =>
    rintro R r ⟨h1, n2, h2, h3⟩ hnd hn hn1 hy1 hf
    have hnd : (a.1 :: (P ++ y :: R).map Prod.fst).Nodup := hnd
    have hn : n ∉ a.1 :: (P ++ y :: R).map Prod.fst := hn
    have hne : a.1 ≠ y.1 := fun q => (List.nodup_cons.mp hnd).1 (q ▸ List.mem_map_of_mem (List.mem_append_right _ List.mem_cons_self))
    have hnn : a.1 ≠ n := fun q => hn (by rw [q]; exact List.mem_cons_self)
    exact ⟨h1, n2, by rw [hf _ hnn hne]; exact h2, ih h3 (List.nodup_cons.mp hnd).2 (fun q => hn (List.mem_cons_of_mem _ q)) hn1 hy1 hf⟩
/-- behind placeFrom: the chain with the group sought at z -/
theorem chain_place {M M1 : jM} {n n1 : Nat} {P T : List Nd} {c : Nd} {e k : Int32} {r0 : Option Nat} {r : Option Value} (hs : Seg M r0 (P ++ c :: T) none) (hnd : ((P ++ c :: T).map Prod.fst).Nodup) (hlt : ∀ z ∈ P ++ c :: T, z.1 < n) (hpl : placed M n e k (lb e k c T) r M1 n1) (hb : ∀ y ∈ P ++ [c], bef y.2 e k = true) :
    ∃ (P2 : List Nd) (z : Nd) (R : List Nd), r = some (.ref z.1) ∧ Seg M1 r0 (P2 ++ z :: R) none ∧ ((P2 ++ z :: R).map Prod.fst).Nodup ∧ (∀ w ∈ P2 ++ z :: R, w.1 < n1) ∧ n ≤ n1 ∧ n1 ≤ n + 1 ∧ (∀ w ∈ P2 ++ z :: R, w ∈ P ++ c :: T ∨ w.1 = n) ∧ (∀ q, q < n → (∀ w ∈ P ++ c :: T, w.1 ≠ q) → M1 q = M q) ∧ (∀ w ∈ P2, bef w.2 e k = true) ∧ z.2.1 = e ∧ z.2.2.1 = k ∧ (∃ h P3, P2 = h :: P3 ∧ ∃ T3, P ++ c :: T = h :: T3) ∧
      ∀ v, ups e k v ((P ++ c :: T).map Prod.snd) = P2.map Prod.snd ++ gth z.2 v :: R.map Prod.snd := by
  obtain ⟨pre, y, rest, h1, h2, h3, h4⟩ := lb_split (e := e) (k := k) T c
  rw [h1] at hpl
  have hall : ∀ w ∈ P ++ (pre ++ [y]), bef w.2 e k = true := by
    intro w hw
    rcases List.mem_append.mp hw with hw | hw
    · exact hb w (List.mem_append_left _ hw)
    · rcases h3 w hw with rfl | h
      · exact hb _ (List.mem_append_right _ List.mem_cons_self)
      · exact h
  have hwhole : P ++ c :: T = (P ++ pre) ++ y :: rest := by rw [h2, List.append_assoc]
  have hfirst : ∃ h P3, P ++ (pre ++ [y]) = h :: P3 ∧ ∃ T3, P ++ c :: T = h :: T3 := by
    cases P with
    | cons a P => exact ⟨a, P ++ (pre ++ [y]), rfl, P ++ c :: T, rfl⟩
    | nil =>
      cases pre with
      | cons a pre =>
        have : c = a := by simpa using (List.cons.inj h2).1
        exact ⟨a, pre ++ [y], rfl, T, by rw [this]; rfl⟩
      | nil =>
        have : c = y := by simpa using (List.cons.inj h2).1
        exact ⟨y, [], rfl, T, by rw [this]; rfl⟩
  have hups : ∀ v, ups e k v ((P ++ c :: T).map Prod.snd) = (P ++ (pre ++ [y])).map Prod.snd ++ ups e k v (rest.map Prod.snd) := by
    intro v
    have : (P ++ c :: T).map Prod.snd = (P ++ (pre ++ [y])).map Prod.snd ++ rest.map Prod.snd := by rw [hwhole]; simp
    rw [this]
    exact ups_bef (fun g hg => by
      obtain ⟨w, hw, rfl⟩ := List.mem_map.mp hg
      exact hall w hw)
  rcases hpl with ⟨z, t, hz, hof, hr, rfl, rfl⟩ | ⟨hno, hr, rfl, hn1, hy1, hf⟩
  · have hz : rest = z :: t := hz
    subst hz
    have hL : P ++ c :: T = (P ++ (pre ++ [y])) ++ z :: t := by rw [hwhole]; simp
    have hzz : z.2.1 = e ∧ z.2.2.1 = k := by simpa [isof] using hof
    refine ⟨P ++ (pre ++ [y]), z, t, hr, by rw [← hL]; exact hs, by rw [← hL]; exact hnd, by rw [← hL]; exact hlt, Nat.le_refl _, Nat.le_succ _, by rw [← hL]; exact fun w hw => Or.inl hw, fun _ _ _ => rfl, hall, hzz.1, hzz.2, hfirst, fun v => ?_⟩
    rw [hups v]
    show _ ++ (if bef z.2 e k then _ else if isof z.2 e k then _ else _) = _
    rw [if_neg (by rw [h4 z t rfl]; decide), if_pos hof]
  · have hy1 : M1 y.1 = some (gnode y.2 (some n)) := hy1
    have hn1 : M1 n = some (gnode (g_nw e k) (rest.head?.map Prod.fst)) := hn1
    have hf : ∀ q, q ≠ n → q ≠ y.1 → M1 q = M q := hf
    have hnin : n ∉ ((P ++ pre) ++ y :: rest).map Prod.fst := by
      intro h
      obtain ⟨w, hw, hwn⟩ := List.mem_map.mp h
      have := hlt w (by rw [hwhole]; exact hw)
      omega
    have hs1 : Seg M1 r0 ((P ++ pre) ++ y :: (n, g_nw e k) :: rest) none := Seg.ins (by rw [← hwhole]; exact hs) (by rw [← hwhole]; exact hnd) hnin hn1 hy1 hf
    have hL : (P ++ pre) ++ y :: (n, g_nw e k) :: rest = (P ++ (pre ++ [y])) ++ (n, g_nw e k) :: rest := by simp
    have hmem : ∀ w ∈ (P ++ (pre ++ [y])) ++ (n, g_nw e k) :: rest, w ∈ P ++ c :: T ∨ w.1 = n := by
      intro w hw
      rw [hwhole]
      simp only [List.mem_append, List.mem_cons, List.mem_singleton] at hw ⊢
      rcases hw with (h | h | h | h) | h | h
      · exact Or.inl (Or.inl (Or.inl h))
      · exact Or.inl (Or.inl (Or.inr h))
      · exact Or.inl (Or.inr (Or.inl h))
      · cases h
      · exact Or.inr (by rw [h])
      · exact Or.inl (Or.inr (Or.inr h))
    refine ⟨P ++ (pre ++ [y]), (n, g_nw e k), rest, hr, by rw [← hL]; exact hs1, ?_, ?_, Nat.le_succ n, Nat.le_refl _, hmem, fun q hq hne => hf q (by omega) (fun h => hne y (by rw [hwhole]; simp) h.symm), hall, rfl, rfl, hfirst, fun v => ?_⟩
    · have hp : ((P ++ (pre ++ [y])) ++ (n, g_nw e k) :: rest).map Prod.fst = (P ++ pre ++ [y]).map Prod.fst ++ n :: rest.map Prod.fst := by simp
      rw [hp, List.perm_middle.nodup_iff, List.nodup_cons]
      have hq : (P ++ pre ++ [y]).map Prod.fst ++ rest.map Prod.fst = ((P ++ pre) ++ y :: rest).map Prod.fst := by simp
      rw [hq]
      exact ⟨hnin, by rw [← hwhole]; exact hnd⟩
    · intro w hw
      rcases hmem w hw with h | h
      · have := hlt w h
        omega
      · omega
    · rw [hups v]
      cases rest with
      | nil => rfl
      | cons z t =>
        show _ ++ (if bef z.2 e k then _ else if isof z.2 e k then _ else _) = _
        rw [if_neg (by rw [h4 z t rfl]; decide), if_neg (by rw [hno z t rfl]; decide)]
        rfl
