/-! Rows of J for the heap, returns and calls; a contract out of a walk. -/
theorem j_in_set {M : jM} {ty : jT} {A : Nat → Prop} {ws : va_W} {a q0 : Nat} {e0 : va_E} {e : jE} (hD : va_D A ws) (h : ∀ (x : Nat) (y : jE), M x = some y → ∃ k : Nat, ws[k]? = some (x, j_e ty y)) (hq : ws[q0]? = some (a, e0)) :
    ∀ (x : Nat) (y : jE), j_up M a e x = some y → ∃ k : Nat, (ws.set q0 (a, j_e ty e))[k]? = some (x, j_e ty y) := by
  intro x y hx
  have hl := (List.getElem?_eq_some_iff.mp hq).1
  by_cases hxa : x = a
  · subst hxa
    rw [j_up_self] at hx
    cases hx
    exact ⟨q0, List.getElem?_set_self hl⟩
  · rw [j_up_ne M e hxa] at hx
    obtain ⟨k, hk⟩ := h x y hx
    refine ⟨k, ?_⟩
    rw [List.getElem?_set_ne (fun q => hxa ?_)]
    · exact hk
    · subst q
      rw [hk] at hq
      cases hq
      rfl
theorem j_in_app {M : jM} {ty : jT} {ws : va_W} {a : Nat} {e : jE} (h : ∀ (x : Nat) (y : jE), M x = some y → ∃ k : Nat, ws[k]? = some (x, j_e ty y)) :
    ∀ (x : Nat) (y : jE), j_up M a e x = some y → ∃ k : Nat, (ws ++ [(a, j_e ty e)])[k]? = some (x, j_e ty y) := by
  intro x y hx
  by_cases hxa : x = a
  · subst hxa
    rw [j_up_self] at hx
    cases hx
    exact ⟨ws.length, by simp⟩
  · rw [j_up_ne M e hxa] at hx
    obtain ⟨k, hk⟩ := h x y hx
    exact ⟨k, by rw [List.getElem?_append_left (List.getElem?_eq_some_iff.mp hk).1]; exact hk⟩
theorem j_H.lt {D : va_G} {ty : jT} {cl : List vw_C} {b0 : Nat} {M : jM} {n : Nat} {H : Heap} (h : j_H D ty cl b0 M n H) {a : Nat} {e : jE} (ha : M a = some e) : b0 ≤ a ∧ a < n := by
  obtain ⟨h1, h2, ws, hP, hD, hM⟩ := h
  obtain ⟨k, hk⟩ := hM a e ha
  exact ⟨hD.2 k _ hk, h1 ▸ (hP k _ hk).lt⟩
theorem j_e_arr {ty : jT} {t : Nat} {cA : ClassId} {fty : FieldType} {x : vp_A} (h : ty[t]? = some (cA, fty)) : j_e ty (.inl (t, x)) = .inl (cA, x) := by
  simp [j_e, h]
section JH
variable {p : Program} {l : Launch} {e : Env} {R : Room} {s : State} {m : MethodId} {args : Array Value} {below : List Frame} {meth : Method} {c : Code} {D : va_G} {ty : jT} {cl : List vw_C} {nw : List Cond} {b0 : Nat} {Q : State → Prop} {nL : Nat} {M : jM} {n cells slots pc : Nat} {L L' : List (Option Value)} {st : List Value} {cc : ByteArray} {own : String} {Ts : List Cond}
theorem j_get (X : j_X p s m args c cc nL own Ts D ty cl nw) {a ci N index : Nat} {C : String} {T : u_T} {fs : List Value} {v : Value} (hM : M a = some (.inr (ci, fs))) (hc : cl[ci]? = some (C, T, N)) (hin : ∀ w ∈ u_ws C T N, w ∈ Ts) (k : Nat) (hk : k < N) (hlink : Cond.fieldLink own index (T k).1 (T k).2.1 (T k).2.2.1 ∈ Ts) (hv : fs[k]? = some v) (hd : decode cc pc = .ok (.getfield index, 3))
    (kk : J p l e R s m args below meth c D ty cl b0 Q nL M n cells slots (pc + 3) L (v :: st)) : J p l e R s m args below meth c D ty cl b0 Q nL M n cells slots pc L (.ref a :: st) := by
  intro H locs ls hH hS hL
  obtain ⟨h1, h2, ws, hP, hD, hMw⟩ := id hH
  obtain ⟨q0, hq⟩ := hMw a _ hM
  exact va_get X.1 X.2.1 X.2.2.2.2.1 hin X.2.2.2.1 X.2.2.2.2.2.1 hP q0 hq hc k hk (X.2.2.2.2.1 _ hlink) (fun _ h => h) hv hd (kk H locs ls hH hS hL)
theorem j_getN (X : j_X p s m args c cc nL own Ts D ty cl nw) {a ci N index : Nat} {C host : String} {T : u_T} {fs : List Value} {v : Value} (hM : M a = some (.inr (ci, fs))) (hc : cl[ci]? = some (C, T, N)) (hin : ∀ w ∈ u_ws C T N, w ∈ Ts) (k : Nat) (hk : k < N) (hlink : Cond.fieldLinkNest own index (T k).1 (T k).2.1 (T k).2.2.1 host ∈ nw) (hv : fs[k]? = some v) (hd : decode cc pc = .ok (.getfield index, 3))
    (kk : J p l e R s m args below meth c D ty cl b0 Q nL M n cells slots (pc + 3) L (v :: st)) : J p l e R s m args below meth c D ty cl b0 Q nL M n cells slots pc L (.ref a :: st) := by
  intro H locs ls hH hS hL
  obtain ⟨h1, h2, ws, hP, hD, hMw⟩ := id hH
  obtain ⟨q0, hq⟩ := hMw a _ hM
  exact va_getN X.1 X.2.1 X.2.2.2.2.1 hin X.2.2.2.1 X.2.2.2.2.2.1 hP q0 hq hc k hk (va_Nw.use rfl (X.2.2.2.2.2.2.1 _ hlink)) (fun _ h => h) hv hd (kk H locs ls hH hS hL)
theorem j_put (X : j_X p s m args c cc nL own Ts D ty cl nw) {a ci N index : Nat} {C : String} {T : u_T} {fs fs' : List Value} {v : Value} (hM : M a = some (.inr (ci, fs))) (hc : cl[ci]? = some (C, T, N)) (hin : ∀ w ∈ u_ws C T N, w ∈ Ts) (ty0 : Nat → FieldType) (hty : ∀ k, k < N → parseFieldDescriptor (T k).2.2.1 = some (ty0 k)) (hnm : ∀ a, a < N → ∀ b, b < N → a ≠ b → (T a).2.1 ≠ (T b).2.1) (k : Nat) (hk : k < N) (hlink : Cond.fieldLink own index (T k).1 (T k).2.1 (T k).2.2.1 ∈ Ts) (hfin : (T k).2.2.2 = false) (hn : narrow (ty0 k) v = v) (hfit : fits (ty0 k) v = true) (hl : k < fs.length) (hfs : fs.set k v = fs') (hd : decode cc pc = .ok (.putfield index, 3))
    (kk : J p l e R s m args below meth c D ty cl b0 Q nL (j_up M a (.inr (ci, fs'))) n cells slots (pc + 3) L st) : J p l e R s m args below meth c D ty cl b0 Q nL M n cells slots pc L (v :: .ref a :: st) := by
  intro H locs ls hH hS hL
  subst hfs
  obtain ⟨h1, h2, ws, hP, hD, hMw⟩ := hH
  obtain ⟨q0, hq⟩ := hMw a _ hM
  have hq : ws[q0]? = some (a, .inr (ci, fs)) := hq
  obtain ⟨hx, hb, -, hown, hts, hK, hN, -⟩ := X
  have hap := va_apart (own := own) hts hin ty0 hty hnm hK hc
  obtain ⟨r, g1, cell, q1, q2, q3, q4⟩ := hP q0 _ hq
  have hr : r = (C, T, N) := Option.some.inj (g1.symm.trans hc)
  subst hr
  obtain ⟨hSl, hfc, kC, hkC, hkind⟩ := hK.1 ci _ hc
  obtain ⟨cf, kf, fi, f, hi, hsl⟩ := hSl k hk
  have hlay := hts _ (hin _ (u_in_lay hk))
  unfold u_lay at hlay
  have hst := (u_facts hfc hkC (u_lays hts hin hk) hi).1
  rw [if_neg (by rw [hfin]; decide)] at hlay
  have h6 := u_store hfc hkC hkind hlay hi (hty k hk) hn hfit
  refine W.putK hx hb (f := f) ⟨hown, hts _ hlink, ⟨_, _, _, hi⟩, hst⟩ (by rw [q2]; exact h6) q1 q3 (by rw [hsl]; exact k2_hasslot (q4 k hk)) rfl rfl hd fun H' e1 e2 e3 => ?_
  rw [hsl] at e1 ⊢
  refine kk H' _ ls ⟨e2.trans h1, h2, _, hP.set hD hq (e := j_e ty (.inr (ci, fs.set k v))) ⟨_, hc, t_OB.to (V := updV (vp_V fs) k v) ⟨_, e1, q2, q3, t_set q4 hap hk v⟩ (fun j _ => vp_updV_set hl v j)⟩ e3, hD.set hq, j_in_set hD hMw hq⟩ (hS.put e2 e3 (hD.2 q0 _ hq)) hL
theorem j_putF (X : j_X p s m args c cc nL own Ts D ty cl nw) {a ci N index : Nat} {C : String} {T : u_T} {fs fs' : List Value} {v : Value} (hM : M a = some (.inr (ci, fs))) (hc : cl[ci]? = some (C, T, N)) (hin : ∀ w ∈ u_ws C T N, w ∈ Ts) (ty0 : Nat → FieldType) (hty : ∀ k, k < N → parseFieldDescriptor (T k).2.2.1 = some (ty0 k)) (hnm : ∀ a, a < N → ∀ b, b < N → a ≠ b → (T a).2.1 ≠ (T b).2.1) (k : Nat) (hk : k < N) (hlink : Cond.fieldLink own index (T k).1 (T k).2.1 (T k).2.2.1 ∈ Ts) (hfin : (T k).2.2.2 = true) (hin2 : meth.name = "<init>") (hdecl : (T k).1 = own) (hn : narrow (ty0 k) v = v) (hfit : fits (ty0 k) v = true) (hl : k < fs.length) (hfs : fs.set k v = fs') (hd : decode cc pc = .ok (.putfield index, 3))
    (kk : J p l e R s m args below meth c D ty cl b0 Q nL (j_up M a (.inr (ci, fs'))) n cells slots (pc + 3) L st) : J p l e R s m args below meth c D ty cl b0 Q nL M n cells slots pc L (v :: .ref a :: st) := by
  intro H locs ls hH hS hL
  subst hfs
  obtain ⟨h1, h2, ws, hP, hD, hMw⟩ := hH
  obtain ⟨q0, hq⟩ := hMw a _ hM
  have hq : ws[q0]? = some (a, .inr (ci, fs)) := hq
  obtain ⟨hx, hb, -, hown, hts, hK, hN, -⟩ := X
  have hap := va_apart (own := own) hts hin ty0 hty hnm hK hc
  obtain ⟨r, g1, cell, q1, q2, q3, q4⟩ := hP q0 _ hq
  have hr : r = (C, T, N) := Option.some.inj (g1.symm.trans hc)
  subst hr
  obtain ⟨hSl, hfc, kC, hkC, hkind⟩ := hK.1 ci _ hc
  obtain ⟨cf, kf, fi, f, hi, hsl⟩ := hSl k hk
  have hlay := hts _ (hin _ (u_in_lay hk))
  unfold u_lay at hlay
  have hst := (u_facts hfc hkC (u_lays hts hin hk) hi).1
  rw [if_pos hfin] at hlay
  have hcf : m.cls = cf := by
    obtain ⟨_, _, c', _, _, _, -, -, hf', -, -, -, hown2, -⟩ := Cond.laysFinal_spec hlay
    have e1 : c' = cf := by have := hi.symm.trans hf'; simp at this; exact this.1.symm
    rw [hdecl] at hown2
    rw [← e1]; exact Option.some.inj (hown.symm.trans hown2)
  have h6 := u_fits hfc hkC hkind (Or.inr hlay) hi (hty k hk) hn hfit
  refine W.putFinK hx hb hown (hts _ hlink) hi hst hcf hin2 (by rw [q2]; exact h6) q1 q3 (by rw [hsl]; exact k2_hasslot (q4 k hk)) rfl rfl hd fun H' e1 e2 e3 => ?_
  rw [hsl] at e1 ⊢
  refine kk H' _ ls ⟨e2.trans h1, h2, _, hP.set hD hq (e := j_e ty (.inr (ci, fs.set k v))) ⟨_, hc, t_OB.to (V := updV (vp_V fs) k v) ⟨_, e1, q2, q3, t_set q4 hap hk v⟩ (fun j _ => vp_updV_set hl v j)⟩ e3, hD.set hq, j_in_set hD hMw hq⟩ (hS.put e2 e3 (hD.2 q0 _ hq)) hL
theorem j_putN (X : j_X p s m args c cc nL own Ts D ty cl nw) {a ci N index : Nat} {C : String} {T : u_T} {fs fs' : List Value} {v : Value} (hM : M a = some (.inr (ci, fs))) (hc : cl[ci]? = some (C, T, N)) (hin : ∀ w ∈ u_ws C T N, w ∈ Ts) (ty0 : Nat → FieldType) (hty : ∀ k, k < N → parseFieldDescriptor (T k).2.2.1 = some (ty0 k)) (hnm : ∀ a, a < N → ∀ b, b < N → a ≠ b → (T a).2.1 ≠ (T b).2.1) (k : Nat) (hk : k < N) {host : String} (hlink : Cond.fieldLinkNest own index (T k).1 (T k).2.1 (T k).2.2.1 host ∈ nw) (hfin : (T k).2.2.2 = false) (hn : narrow (ty0 k) v = v) (hfit : fits (ty0 k) v = true) (hl : k < fs.length) (hfs : fs.set k v = fs') (hd : decode cc pc = .ok (.putfield index, 3))
    (kk : J p l e R s m args below meth c D ty cl b0 Q nL (j_up M a (.inr (ci, fs'))) n cells slots (pc + 3) L st) : J p l e R s m args below meth c D ty cl b0 Q nL M n cells slots pc L (v :: .ref a :: st) := by
  intro H locs ls hH hS hL
  subst hfs
  obtain ⟨h1, h2, ws, hP, hD, hMw⟩ := hH
  obtain ⟨q0, hq⟩ := hMw a _ hM
  have hq : ws[q0]? = some (a, .inr (ci, fs)) := hq
  obtain ⟨hx, hb, -, hown, hts, hK, hN, -⟩ := X
  have hap := va_apart (own := own) hts hin ty0 hty hnm hK hc
  obtain ⟨r, g1, cell, q1, q2, q3, q4⟩ := hP q0 _ hq
  have hr : r = (C, T, N) := Option.some.inj (g1.symm.trans hc)
  subst hr
  obtain ⟨hSl, hfc, kC, hkC, hkind⟩ := hK.1 ci _ hc
  obtain ⟨cf, kf, fi, f, hi, hsl⟩ := hSl k hk
  have hlay := hts _ (hin _ (u_in_lay hk))
  unfold u_lay at hlay
  have hst := (u_facts hfc hkC (u_lays hts hin hk) hi).1
  rw [if_neg (by rw [hfin]; decide)] at hlay
  have h6 := u_store hfc hkC hkind hlay hi (hty k hk) hn hfit
  refine va_WputK hx hb (f := f) hown (va_Nw.use rfl (hN _ hlink)) hi hst (by rw [q2]; exact h6) q1 q3 (by rw [hsl]; exact k2_hasslot (q4 k hk)) rfl rfl hd fun H' e1 e2 e3 => ?_
  rw [hsl] at e1 ⊢
  refine kk H' _ ls ⟨e2.trans h1, h2, _, hP.set hD hq (e := j_e ty (.inr (ci, fs.set k v))) ⟨_, hc, t_OB.to (V := updV (vp_V fs) k v) ⟨_, e1, q2, q3, t_set q4 hap hk v⟩ (fun j _ => vp_updV_set hl v j)⟩ e3, hD.set hq, j_in_set hD hMw hq⟩ (hS.put e2 e3 (hD.2 q0 _ hq)) hL
theorem j_iald (X : j_X p s m args c cc nL own Ts D ty cl nw) {a t N : Nat} {cA : ClassId} {f : Nat → Int32} {i : Int32} {v : Int32} (hM : M a = some (.inl (t, N, .inl f))) (ht : ty[t]? = some (cA, .int)) (hin : vp_in i N) (hv : f i.toNatClampNeg = v) (hd : decode cc pc = .ok (.iaload, 1))
    (kk : J p l e R s m args below meth c D ty cl b0 Q nL M n cells slots (pc + 1) L (.int v :: st)) : J p l e R s m args below meth c D ty cl b0 Q nL M n cells slots pc L (.int i :: .ref a :: st) := by
  intro H locs ls hH hS hL
  subst hv
  obtain ⟨h1, h2, ws, hP, hD, hMw⟩ := id hH
  obtain ⟨q0, hq⟩ := hMw a _ hM
  rw [j_e_arr ht] at hq
  exact va_iald X.1 X.2.1 X.2.2.2.2.2.1 hP q0 t hq ht hin hd (kk H locs ls hH hS hL)
theorem j_iast (X : j_X p s m args c cc nL own Ts D ty cl nw) {a t N : Nat} {cA : ClassId} {f : Nat → Int32} {i x : Int32} (hM : M a = some (.inl (t, N, .inl f))) (ht : ty[t]? = some (cA, .int)) (hin : vp_in i N) (hd : decode cc pc = .ok (.iastore, 1))
    (kk : J p l e R s m args below meth c D ty cl b0 Q nL (j_up M a (.inl (t, N, .inl (upd f i.toNatClampNeg x)))) n cells slots (pc + 1) L st) : J p l e R s m args below meth c D ty cl b0 Q nL M n cells slots pc L (.int x :: .int i :: .ref a :: st) := by
  intro H locs ls hH hS hL
  obtain ⟨h1, h2, ws, hP, hD, hMw⟩ := hH
  obtain ⟨q0, hq⟩ := hMw a _ hM
  rw [j_e_arr ht] at hq
  obtain ⟨hx, hb, -, hown, hts, hK, hN, -⟩ := X
  refine W.iast hx hb (hP q0 _ hq) ((hK.2 t _ ht).1 N (fun j => .int (f j))) (fun q => by cases q) (by show ¬ (i < 0 ∨ (arrV _ _ _).slots.size ≤ _); rw [arrV_size]; exact hin) rfl rfl hd fun H1 e1 z oq => ?_
  refine kk H1 _ ls ⟨z.trans h1, h2, _, hP.set hD hq (e := j_e ty (.inl (t, N, .inl (upd f i.toNatClampNeg x)))) ?_ oq, hD.set hq, j_in_set hD hMw hq⟩ (hS.put z oq (hD.2 q0 _ hq)) hL
  rw [j_e_arr ht]
  show H1[a]? = some (vp_cell _ _)
  rw [e1]
  rw [vp_cell_i, vp_cell_i, arrV_store]
  congr 2
  funext q
  by_cases hq : q = i.toNatClampNeg
  · subst hq
    simp [updV, upd]
  · simp [updV, upd, hq]
theorem j_alen (X : j_X p s m args c cc nL own Ts D ty cl nw) {a t : Nat} {cA : ClassId} {fty : FieldType} {x : vp_A} {v : Int32} (hM : M a = some (.inl (t, x))) (ht : ty[t]? = some (cA, fty)) (hv : Int32.ofNat x.1 = v) (hd : decode cc pc = .ok (.arraylength, 1))
    (kk : J p l e R s m args below meth c D ty cl b0 Q nL M n cells slots (pc + 1) L (.int v :: st)) : J p l e R s m args below meth c D ty cl b0 Q nL M n cells slots pc L (.ref a :: st) := by
  intro H locs ls hH hS hL
  obtain ⟨h1, h2, ws, hP, hD, hMw⟩ := id hH
  obtain ⟨q0, hq⟩ := hMw a _ hM
  rw [j_e_arr ht] at hq
  exact va_alen X.1 X.2.1 X.2.2.2.2.2.1 hP q0 t hq ht hv hd (kk H locs ls hH hS hL)
theorem j_newaI (X : j_X p s m args c cc nL own Ts D ty cl nw) {t N : Nat} {cA : ClassId} {i : Int32} (ht : ty[t]? = some (cA, .int)) (harr : Cond.arrayClass .int ∈ Ts) (hn : ¬ i < 0) (hN : i.toNatClampNeg = N) (hsm : N ≤ 100000000) (hcells : cells + 1 ≤ R.cells) (hslots : slots + N ≤ R.slots) (hd : decode cc pc = .ok (.newarray .int, 2))
    (kk : J p l e R s m args below meth c D ty cl b0 Q nL (j_up M n (.inl (t, N, .inl (fun _ => 0)))) (n + 1) (cells + 1) (slots + N) (pc + 2) L (.ref n :: st)) : J p l e R s m args below meth c D ty cl b0 Q nL M n cells slots pc L (.int i :: st) := by
  intro H locs ls hH hS hL
  obtain ⟨h1, h2, ws, hP, hD, hMw⟩ := hH
  obtain ⟨hx, hb, -, hown, hts, hK, hNw, hA⟩ := X
  subst h1
  refine va_newaK (atype := .int) hx hb (hts _ harr) rfl hd rfl hn hN (by show N * componentBytes .int ≤ 536870912; simp only [componentBytes]; omega) hcells hslots rfl fun H1 cB e1 z1 o1 hAr hNm => ?_
  have hcB : cB = cA := Option.some.inj (hNm.symm.trans (hA t _ ht))
  subst hcB
  have hk : ∀ (k : Nat) (x : Nat × va_E), ws[k]? = some x → H1[x.1]? = H[x.1]? := fun k x hx => o1 x.1 ((hP k x hx).lt)
  refine kk H1 locs ls ⟨z1, by omega, ws ++ [(H.size, j_e ty (.inl (t, N, .inl (fun _ => 0))))], (hP.kept hk).app (fun k x hx => ?_), hD.push hP rfl (by exact h2), j_in_app hMw⟩ ⟨Nat.le_trans hS.1 (by omega), fun x h1 h2 => (o1 x (Nat.lt_of_lt_of_le h1 hS.1)).trans (hS.2.1 x h1 h2), hS.2.2⟩ hL
  have hz : k < 1 := (List.getElem?_eq_some_iff.mp hx).1
  rw [show k = 0 by omega] at hx
  cases hx
  rw [j_e_arr ht]
  show H1[H.size]? = some (vp_cell _ _)
  exact e1
theorem j_new (X : j_X p s m args c cc nL own Ts D ty cl nw) {ci N index : Nat} {C : String} {T : u_T} {fs : List Value} (hc : cl[ci]? = some (C, T, N)) (hin : ∀ w ∈ u_ws C T N, w ∈ Ts) (ty0 : Nat → FieldType) (hty : ∀ k, k < N → parseFieldDescriptor (T k).2.2.1 = some (ty0 k)) (hcl : Cond.classLink own index C ∈ Ts) (hinst : Cond.instantiable C N ∈ Ts) (hini : Cond.initialized C ∈ Ts) (hfs : ∀ j, j < N → defaultValue (ty0 j) = vp_V fs j) (hcells : cells + 1 ≤ R.cells) (hslots : slots + N ≤ R.slots) (hd : decode cc pc = .ok (.new index, 3))
    (kk : J p l e R s m args below meth c D ty cl b0 Q nL (j_up M n (.inr (ci, fs))) (n + 1) (cells + 1) (slots + N) (pc + 3) L (.ref n :: st)) : J p l e R s m args below meth c D ty cl b0 Q nL M n cells slots pc L st := by
  intro H locs ls hH hS hL
  obtain ⟨h1, h2, ws, hP, hD, hMw⟩ := hH
  obtain ⟨hx, hb, -, hown, hts, hK, hNw, hA⟩ := X
  subst h1
  have hKn := hK.1 ci _ hc
  refine W.newcK hx hb hown (hts _ hcl) (hts _ hinst) (hts _ hini) rfl hd hcells hslots hKn.2.1 rfl fun H1 kC hkC e1 z1 o1 => ?_
  have hk : ∀ (k : Nat) (x : Nat × va_E), ws[k]? = some x → H1[x.1]? = H[x.1]? := fun k x hx => o1 x.1 ((hP k x hx).lt)
  refine kk H1 locs ls ⟨z1, by omega, ws ++ [(H.size, j_e ty (.inr (ci, fs)))], (hP.kept hk).app (fun k x hx => ?_), hD.push hP rfl (by exact h2), j_in_app hMw⟩ ⟨Nat.le_trans hS.1 (by omega), fun x h1 h2 => (o1 x (Nat.lt_of_lt_of_le h1 hS.1)).trans (hS.2.1 x h1 h2), hS.2.2⟩ hL
  have hz : k < 1 := (List.getElem?_eq_some_iff.mp hx).1
  rw [show k = 0 by omega] at hx
  cases hx
  exact ⟨_, hc, (u_born ty0 hts hin hKn hkC e1 hty).to hfs⟩
theorem j_objInit (X : j_X p s m args c cc nL own Ts D ty cl nw) {a idx : Nat} (hlink : Cond.methodLink own idx objectInit ∈ Ts) (hinst : Cond.instanceMethod objectInit ∈ Ts) (hcode : Cond.code objectInit ⟨#[0xb1]⟩ 1 none ∈ Ts) (hd : decode cc pc = .ok (.invokespecial idx, 3)) (hfr : 1 ≤ R.frames) (hlo : (st.map fun v => v.category).sum + 12 ≤ R.locals)
    (kk : J p l e R s m args below meth c D ty cl b0 Q nL M n cells slots (pc + 3) L st) : J p l e R s m args below meth c D ty cl b0 Q nL M n cells slots pc L (.ref a :: st) := by
  intro H locs ls hH hS hL
  obtain ⟨hx, hb, hml, hown, hts, hK, hNw, hA⟩ := id X
  refine W.objInit hx hb hown (hts _ hlink) (hts _ hinst) (hts _ hcode) rfl (by rw [hml]; exact hL.1) rfl hd hfr (by show 2 * 0 + _ + 12 ≤ _; omega) ?_
  exact kk H locs ls hH hS hL
end JH
