/-! The reference's walk over ends and keys, against the list of groups. -/
theorem step_end {w sl τ σ b : Int} {A : List Ev} {G dn td U : List Grp} {ft fk fv : Nat → Int32} (hw : 1 ≤ w) (hs : 1 ≤ sl) (h16 : w ≤ 16 * sl) (hGL : GL w sl τ A G) (hG : G = dn ++ (td ++ U)) (hT : ∀ g ∈ td, g.1.toInt ≤ σ) (hb : ∀ g ∈ td, b < g.1.toInt) (hA : ∀ i, i < A.length → A[i]? = some (ft i, fk i, fv i)) :
    ((4000000000 ≤ nE w sl ft b A.length ∨ σ < nE w sl ft b A.length) → td = []) ∧ (∀ g ∈ td, nE w sl ft b A.length ≤ g.1.toInt) ∧ (nE w sl ft b A.length < 4000000000 → b < nE w sl ft b A.length ∧ isW w sl (nE w sl ft b A.length) ∧ ∃ i, i < A.length ∧ inW w (ft i).toInt (nE w sl ft b A.length)) := by
  obtain ⟨h1, h2, h3⟩ := nE_spec (w := w) (sl := sl) (b := b) (ft := ft) hw hs h16 (a := A.length)
  have hle : ∀ g ∈ td, nE w sl ft b A.length ≤ g.1.toInt := by
    intro g hg
    obtain ⟨hz, _, ⟨e, he, hin, _⟩, _⟩ := hGL.2.1 g (by rw [hG]; exact List.mem_append_right _ (List.mem_append_left _ hg))
    obtain ⟨i, hi⟩ := List.getElem?_of_mem he
    have hil := (List.getElem?_eq_some_iff.mp hi).1
    have := hA i hil
    rw [hi] at this
    cases this
    exact h3 i hil _ hz hin (hb g hg)
  refine ⟨fun hx => ?_, hle, fun hx => ?_⟩
  · cases td with
    | nil => rfl
    | cons g t =>
      have e1 := hle g List.mem_cons_self
      have e2 := hT g List.mem_cons_self
      have e3 := i_rng g.1
      omega
  · rcases h2 with h | ⟨i, hi, ha, hb2, hc⟩
    · omega
    · exact ⟨hc, ha, i, hi, hb2⟩
theorem step_key {w sl τ σ z kb : Int} {A : List Ev} {G dn td U : List Grp} {ft fk fv : Nat → Int32} (hGL : GL w sl τ A G) (hG : G = dn ++ (td ++ U)) (hU : ∀ g ∈ U, σ < g.1.toInt) (hz : isW w sl z) (hzt : τ < z) (hzs : z ≤ σ) (htk : ∀ g ∈ td, z ≤ g.1.toInt ∧ (g.1.toInt = z → kb < g.2.1.toInt)) (hdk : ∀ g ∈ dn, g.1.toInt < z ∨ (g.1.toInt = z ∧ g.2.1.toInt ≤ kb)) (hA : ∀ i, i < A.length → A[i]? = some (ft i, fk i, fv i)) :
    (4000000000 ≤ nK w ft fk z kb A.length → ∀ g ∈ td, z < g.1.toInt) ∧ (nK w ft fk z kb A.length < 4000000000 → kb < nK w ft fk z kb A.length ∧ ∃ g rest, td = g :: rest ∧ g.1.toInt = z ∧ g.2.1.toInt = nK w ft fk z kb A.length ∧ ∀ h ∈ rest, z ≤ h.1.toInt ∧ (h.1.toInt = z → nK w ft fk z kb A.length < h.2.1.toInt)) := by
  obtain ⟨h1, h2, h3⟩ := nK_spec (w := w) (e := z) (b := kb) (ft := ft) (fk := fk) (a := A.length)
  have hmin : ∀ g ∈ td, g.1.toInt = z → nK w ft fk z kb A.length ≤ g.2.1.toInt := by
    intro g hg hgz
    obtain ⟨_, _, ⟨e, he, hin, hk⟩, _⟩ := hGL.2.1 g (by rw [hG]; exact List.mem_append_right _ (List.mem_append_left _ hg))
    obtain ⟨i, hi⟩ := List.getElem?_of_mem he
    have hil := (List.getElem?_eq_some_iff.mp hi).1
    have := hA i hil
    rw [hi] at this
    cases this
    rw [hgz] at hin
    have hk : fk i = g.2.1 := hk
    have := h3 i hil hin (by rw [hk]; exact (htk g hg).2 hgz)
    rw [hk] at this
    exact this
  refine ⟨fun hx g hg => ?_, fun hx => ?_⟩
  · have e1 := (htk g hg).1
    rcases i_lge z g.1.toInt with h | h
    · exact h
    · have := hmin g hg (by omega)
      have := i_rng g.2.1
      omega
  · rcases h2 with h | ⟨i, hi, hin, hk, hb⟩
    · omega
    · refine ⟨hb, ?_⟩
      obtain ⟨g, hg, hgz, hgk⟩ := hGL.2.2 _ (List.mem_of_getElem? (hA i hi)) z hz hin hzt
      have hgk : g.2.1 = fk i := hgk
      have hgk2 : g.2.1.toInt = nK w ft fk z kb A.length := by rw [hgk]; exact hk
      have hgt : g ∈ td := by
        rw [hG] at hg
        rcases List.mem_append.mp hg with h | h
        · rcases hdk g h with q | ⟨_, q⟩
          · omega
          · omega
        · rcases List.mem_append.mp h with h | h
          · exact h
          · have := hU g h
            omega
      have hpw : td.Pairwise gLt := by
        have := hGL.1
        rw [hG] at this
        exact (List.pairwise_append.mp (List.pairwise_append.mp this).2.1).1
      cases td with
      | nil => cases hgt
      | cons a rest =>
        have hpa := (List.pairwise_cons.mp hpw).1
        have hag : a = g := by
          rcases List.mem_cons.mp hgt with h | h
          · exact h.symm
          · exfalso
            have ha := htk a List.mem_cons_self
            rcases hpa g h with q | ⟨q1, q2⟩
            · omega
            · have haz : a.1.toInt = z := by rw [q1]; exact hgz
              have := hmin a List.mem_cons_self haz
              omega
        subst hag
        refine ⟨a, rest, rfl, hgz, hgk2, fun h hh => ⟨(htk h (List.mem_cons_of_mem _ hh)).1, fun hhz => ?_⟩⟩
        rcases hpa h hh with q | ⟨_, q⟩
        · omega
        · omega
theorem wc_step {dn bl : List Grp} {z : Int} (hz : -2147483648 < z) (hd : ∀ g ∈ dn, g.1.toInt < z) (hb : ∀ g ∈ bl, g.1.toInt = z) (hne : bl ≠ []) : wc (-2147483648) (dn ++ bl) = wc (-2147483648) dn + 1 := by
  cases bl with
  | nil => exact absurd rfl hne
  | cons a t =>
    have ha := hb a List.mem_cons_self
    refine wc_app (z := a.1) (fun q => ?_) (fun g hg q => ?_) hne (fun g hg => i_eq.mpr (by rw [hb g hg, ha]))
    · rw [← q] at ha
      have : (-2147483648 : Int32).toInt = -2147483648 := by decide
      omega
    · have := hd g hg
      rw [q] at this
      omega
theorem toNat_dec {a b : Int} {f : Nat} (h : (4000000000 - a).toNat < f + 1) (hab : a < b) (hb : b < 4000000000) : (4000000000 - b).toNat < f := by omega
