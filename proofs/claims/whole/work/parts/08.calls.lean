/-! Returns, a contract out of a walk, calls by contract. -/
def j_a0 (as : List Value) : List (Option Value) := as.flatMap fun v => if v.category = 2 then [some v, none] else [some v]
theorem j_args (as : List Value) : ∀ (i k : Nat) (v : Value), (j_a0 as)[i]? = some (some v) → (k + i, v) ∈ lv_args k as := by
  induction as with
  | nil => intro i k v hv; simp [j_a0] at hv
  | cons a as ih =>
    intro i k v hv
    by_cases h2 : a.category = 2
    · have e : j_a0 (a :: as) = some a :: none :: j_a0 as := by simp [j_a0, h2]
      rw [e] at hv
      match i, hv with
      | 0, hv =>
        simp at hv
        subst hv
        exact List.mem_cons_self
      | 1, hv => simp at hv
      | i + 2, hv =>
        simp only [List.getElem?_cons_succ] at hv
        have := ih i (k + 2) v hv
        refine List.mem_cons_of_mem _ ?_
        rw [if_pos h2]
        rw [show k + (i + 2) = k + 2 + i by omega]
        exact this
    · have e : j_a0 (a :: as) = some a :: j_a0 as := by simp [j_a0, h2]
      rw [e] at hv
      match i, hv with
      | 0, hv =>
        simp at hv
        subst hv
        exact List.mem_cons_self
      | i + 1, hv =>
        simp only [List.getElem?_cons_succ] at hv
        have := ih i (k + 1) v hv
        refine List.mem_cons_of_mem _ ?_
        rw [if_neg h2]
        rw [show k + (i + 1) = k + 1 + i by omega]
        exact this
theorem j_sl (as : List Value) : (lg_sl as).length = (j_a0 as).length := by
  induction as with
  | nil => rfl
  | cons a as ih =>
    by_cases h2 : a.category = 2
    · have e : j_a0 (a :: as) = some a :: none :: j_a0 as := by simp [j_a0, h2]
      have e2 : lg_sl (a :: as) = .val a :: .second :: lg_sl as := by simp [lg_sl, h2]
      rw [e, e2]; simp [ih]
    · have e : j_a0 (a :: as) = some a :: j_a0 as := by simp [j_a0, h2]
      have e2 : lg_sl (a :: as) = .val a :: lg_sl as := by simp [lg_sl, h2]
      rw [e, e2]; simp [ih]
theorem j_L0 {as : List Value} {k : Nat} {L0 : List (Option Value)} (hl : (j_a0 as).length ≤ k) (h0 : j_a0 as ++ List.replicate (k - (j_a0 as).length) none = L0) : j_L ((lg_sl as ++ List.replicate (k - (lg_sl as).length) Slot.unset).toArray) k L0 := by
  have h1 := lv_entry as (n := k) (by rw [j_sl]; exact hl)
  subst h0
  refine ⟨h1.1, h1.2.1, fun i v hi => ?_⟩
  by_cases hlt : i < (j_a0 as).length
  · rw [List.getElem?_append_left hlt] at hi
    have := j_args as i 0 v hi
    rw [Nat.zero_add] at this
    exact h1.2.2 (i, v) this
  · rw [List.getElem?_append_right (Nat.not_lt.mp hlt)] at hi
    have := List.mem_of_getElem? hi
    rw [List.mem_replicate] at this
    exact absurd this.2 (by simp)
section JC
variable {p : Program} {l : Launch} {e : Env} {R : Room} {s : State} {m : MethodId} {args : Array Value} {below : List Frame} {meth : Method} {c : Code} {D : va_G} {ty : jT} {cl : List vw_C} {nw : List Cond} {b0 : Nat} {Q : State → Prop} {nL : Nat} {M : jM} {n cells slots pc : Nat} {L L' : List (Option Value)} {st : List Value} {cc : ByteArray} {own : String} {Ts : List Cond} {Rt : Option Value → jM → Nat → Prop} {mc ms : Nat}
theorem j_end {H : Heap} {locs : List Loc} {r : Option Value} {t : State} (hH : j_H D ty cl b0 M n H) (hS : va_S (fun q => b0 ≤ q) s.heap H locs) (hq : Rt r M n) (ht : t.heap = H) : j_Q D ty cl b0 Rt args s (.returned r) t := ⟨r, M, n, rfl, hq, by rw [ht]; exact hH, hS.F ht⟩
theorem j_iret (X : j_X p s m args c cc nL own Ts D ty cl nw) (hlk : meth.locks = false) (hr : meth.sig.returnType = some .int) (hc : cells ≤ mc) (hs : slots ≤ ms) {v : Int32} (hd : decode cc pc = .ok (.ireturn, 1)) (hq : Rt (some (.int v)) M n) : J p l e R s m args below meth c D ty cl b0 (MQ below (j_Q D ty cl b0 Rt) args s mc ms (fun q => b0 ≤ q)) nL M n cells slots pc L [.int v] := fun _ _ _ hH hS _ => W.widen hc hs (W.iret X.1 X.2.1 hr (fun _ ht _ => j_end hH hS hq ht) hS.2.2 hd hlk)
theorem j_lret (X : j_X p s m args c cc nL own Ts D ty cl nw) (hlk : meth.locks = false) (hr : meth.sig.returnType = some .long) (hc : cells ≤ mc) (hs : slots ≤ ms) {v : Int64} (hd : decode cc pc = .ok (.lreturn, 1)) (hq : Rt (some (.long v)) M n) : J p l e R s m args below meth c D ty cl b0 (MQ below (j_Q D ty cl b0 Rt) args s mc ms (fun q => b0 ≤ q)) nL M n cells slots pc L [.long v] := fun _ _ _ hH hS _ => W.widen hc hs (W.lret X.1 X.2.1 hr (fun _ ht _ => j_end hH hS hq ht) hS.2.2 hd hlk)
theorem j_zret (X : j_X p s m args c cc nL own Ts D ty cl nw) (hlk : meth.locks = false) (hr : meth.sig.returnType = some .boolean) (hc : cells ≤ mc) (hs : slots ≤ ms) {v : Int32} (hn : narrow .boolean (.int v) = .int v) (hd : decode cc pc = .ok (.ireturn, 1)) (hq : Rt (some (.int v)) M n) : J p l e R s m args below meth c D ty cl b0 (MQ below (j_Q D ty cl b0 Rt) args s mc ms (fun q => b0 ≤ q)) nL M n cells slots pc L [.int v] := fun _ _ _ hH hS _ => W.widen hc hs (W.zret X.1 X.2.1 hr hn (fun _ ht _ => j_end hH hS hq ht) hS.2.2 hd hlk)
theorem j_vret (X : j_X p s m args c cc nL own Ts D ty cl nw) (hlk : meth.locks = false) (hr : meth.sig.returnType = none) (hc : cells ≤ mc) (hs : slots ≤ ms) (hd : decode cc pc = .ok (.return_, 1)) (hq : Rt none M n) : J p l e R s m args below meth c D ty cl b0 (MQ below (j_Q D ty cl b0 Rt) args s mc ms (fun q => b0 ≤ q)) nL M n cells slots pc L [] := fun _ _ _ hH hS _ => W.widen hc hs (W.vret X.1 X.2.1 hr (fun _ ht _ => j_end hH hS hq ht) hS.2.2 hd hlk)
theorem j_aret (X : j_X p s m args c cc nL own Ts D ty cl nw) (hlk : meth.locks = false) {C : String} (hr : meth.sig.returnType = some (.object C)) (hc : cells ≤ mc) (hs : slots ≤ ms) {r : Option Nat} (hd : decode cc pc = .ok (.areturn, 1)) (hq : Rt (some (va_rf r)) M n) : J p l e R s m args below meth c D ty cl b0 (MQ below (j_Q D ty cl b0 Rt) args s mc ms (fun q => b0 ≤ q)) nL M n cells slots pc L [va_rf r] := fun _ _ _ hH hS _ => W.widen hc hs (W.aret X.1 X.2.1 hr (Or.inl ⟨C, rfl⟩) (by cases r with | none => exact Or.inl rfl | some a => exact Or.inr ⟨a, rfl⟩) (fun _ ht _ => j_end hH hS hq ht) hS.2.2 hd hlk)
theorem j_widen {c2 s2 : Nat} (h1 : cells ≤ c2) (h2 : slots ≤ s2) (k : J p l e R s m args below meth c D ty cl b0 Q nL M n c2 s2 pc L st) : J p l e R s m args below meth c D ty cl b0 Q nL M n cells slots pc L st := fun H locs ls hH hS hL => W.widen h1 h2 (k H locs ls hH hS hL)
/-- a contract out of the walk of the body -/
theorem j_start {y : MethodName} {ws ws' : List Cond} {maxL : Nat} {ret : Option FieldType} {fr lo : Nat} {as : List Value} (hy : plainName y.cls = true) (hw : ws = Cond.code y cc maxL ret :: ws') (L0 : List (Option Value)) (hlen : (j_a0 as).length ≤ maxL) (h0 : j_a0 as ++ List.replicate (maxL - (j_a0 as).length) none = L0)
    (body : ∀ (p : Program) (e : Env) (s : State) (m : MethodId) (below : List Frame) (meth : Method) (c : Code), j_X p s m as.toArray c cc maxL y.cls ws D ty cl nw → meth.locks = false → meth.sig.returnType = ret → meth.name = y.name →
      J p l e { frames := fr, cells := mc, slots := ms, locals := lo } s m as.toArray below meth c D ty cl b0 (MQ below (j_Q D ty cl b0 Rt) as.toArray s mc ms (fun q => b0 ≤ q)) maxL M n 0 0 0 L0 []) :
    Ct l D ty cl nw b0 y ws fr lo mc ms as M n Rt := by
  refine Met.ofW (cc := cc) (maxL := maxL) (ret := ret) hy hw ?_
  intro p e s m args below meth c s₁ B hml hv
  obtain ⟨rfl, hH, hK⟩ := hv
  rw [lg_entry_eq]
  exact body p e s m below meth c ⟨B.exec, B.bytes, hml, findClass_of_methodNamed B.named, atoms_spec (ws := ws) B.pre, hK⟩ B.notSynchronized B.returns (name_of_methodNamed B.named B.method).1 s.heap [] _ hH va_S.rf (j_L0 hlen h0)
theorem j_blind (hnw : nw.all j_nest = true) {as : List Value} : FrameBlind (j_P D ty cl nw b0 as M n) := by
  intro a U g mk h
  obtain ⟨h1, h2, h3, h4, h5⟩ := h
  refine ⟨h1, h2, va_K.moved (u := U) (U := U.calling g mk a) (Vm.Alike.refl U.vm) h3, fun w hw => ?_, h5⟩
  have h6 := List.all_eq_true.mp hnw w hw
  have h7 : w.onTables = true := by cases w <;> first | (simp [j_nest] at h6; done) | rfl
  exact va_Nw.same (u := U) (U := U.calling g mk a) h7 rfl (h4 w hw)
/-- behind a call -/
theorem j_ofRun {H : Heap} {locs : List Loc} {ls : Array Slot} {rest st0 : List Value} {a : Array Value} (hr : va_Run p l e R s m args below meth c H locs cells slots mc ms (F0 m pc ls st0) rest (j_Q D ty cl b0 Rt a) (fun q => b0 ≤ q)) (hS : va_S (fun q => b0 ≤ q) s.heap H locs) (hL : j_L ls nL L)
    (kk : ∀ (r : Option Value) (M' : jM) (n' : Nat), Rt r M' n' → J p l e R s m args below meth c D ty cl b0 Q nL M' n' (cells + mc) (slots + ms) (pc + 3) L (r.toList ++ rest)) : W p l e R s m args below meth c H locs cells slots Q (F0 m pc ls st0) := by
  intro T hT X
  obtain ⟨v, st₀, t, T', Lc, h0, X', hLc, e1, e2, ⟨r, M', n', hv, hp, hH', hz, hk⟩, stp⟩ := hr T hT X
  cases hv
  rw [h0] at hz hk
  obtain ⟨t2, a1, b1⟩ := kk v M' n' hp T'.heap (locs ++ Lc) ls (by rw [e1]; exact hH')
    ⟨Nat.le_trans hS.1 (by rw [e1]; exact hz), fun q h1 h2 => by rw [e1, hk q (Nat.lt_of_lt_of_le h1 hS.1) h2]; exact hS.2.1 q h1 h2, fun q hq => by
      rcases List.mem_append.mp hq with h | h
      · exact hS.2.2 q h
      · exact hLc q h⟩ hL T' rfl X'
  exact ⟨t2, stp t2 a1, b1⟩
theorem j_callV (X : j_X p s m args c cc nL own Ts D ty cl nw) (hnw : nw.all j_nest = true) {y : MethodName} {ws ws' : List Cond} {maxL : Nat} {ret : Option FieldType} {fr lo index : Nat} {bytes : ByteArray} {na : Nat} {C : String} {T : u_T} {N ci b : Nat} {fs : List Value} {As rest : List Value} (hM : M b = some (.inr (ci, fs))) (hc : cl[ci]? = some (C, T, N)) (hna : As.length = na) (hC : Ct l D ty cl nw b0 y ws fr lo mc ms (.ref b :: As) M n Rt) (hw : ws = Cond.code y bytes maxL ret :: ws') (hG : GoodIn Ts (wsV own index C y ws)) (hdd : y.cls = C ∧ y.cls ≠ "java/lang/invoke/MethodHandle" ∧ y.cls ≠ "java/lang/invoke/VarHandle" ∧ (parseMethodDescriptor y.desc).map (fun d => d.parameters.length) = some na) (hR : fr + 1 ≤ R.frames ∧ 8 + (maxL + 11) + lo ≤ R.locals) (hro : (rest.map fun v => v.category).sum ≤ 8) (hst : st = As.reverse ++ .ref b :: rest) (hd : decode cc pc = .ok (.invokevirtual index, 3)) (hf : cells + mc ≤ R.cells ∧ slots + ms ≤ R.slots) (kk : ∀ (r : Option Value) (M' : jM) (n' : Nat), Rt r M' n' → J p l e R s m args below meth c D ty cl b0 Q nL M' n' (cells + mc) (slots + ms) (pc + 3) L (r.toList ++ rest)) : J p l e R s m args below meth c D ty cl b0 Q nL M n cells slots pc L st := by
  intro H locs ls hH hS hL
  obtain ⟨hx, hb, hml, hown, hts, hK⟩ := id X
  subst hst
  refine j_ofRun (Rt := Rt) (a := (.ref b :: As).toArray) ?_ hS hL kk
  exact va_runV (rest := rest) (As := As) ⟨hx, hb, hml, hown, hts⟩ hC (cwV na hts hG hw rfl rfl hdd hR) ⟨j_blind hnw, (by obtain ⟨_, _, ws1, hP, _, hMw⟩ := id hH; obtain ⟨q0, hq⟩ := hMw _ _ hM; exact va_recv hK.1 hP (ci := ci) (q0 := q0) hc hq), fun U hU hW => ⟨rfl, by rw [hU]; exact hH, j_K.warm hnw hW hK⟩⟩ rfl hna hL.1 rfl (lv_room hro) hd hf
theorem j_callVN (X : j_X p s m args c cc nL own Ts D ty cl nw) (hnw : nw.all j_nest = true) {y : MethodName} {ws ws' : List Cond} {maxL : Nat} {ret : Option FieldType} {fr lo index : Nat} {bytes : ByteArray} {na : Nat} {C : String} {T : u_T} {N ci b : Nat} {fs : List Value} {As rest : List Value} (hM : M b = some (.inr (ci, fs))) (hc : cl[ci]? = some (C, T, N)) {host : String} (hna : As.length = na) (hC : Ct l D ty cl nw b0 y ws fr lo mc ms (.ref b :: As) M n Rt) (hw : ws = Cond.code y bytes maxL ret :: ws') (hG : GoodIn Ts ws) (hl : Cond.methodLinkNest own index y host ∈ nw) (hini : Cond.initialized y.cls ∈ Ts) (hi1 : Cond.instanceMethod y ∈ Ts) (hi2 : Cond.selects C y y ∈ Ts) (hdd : y.cls ≠ "java/lang/invoke/MethodHandle" ∧ y.cls ≠ "java/lang/invoke/VarHandle" ∧ (parseMethodDescriptor y.desc).map (fun d => d.parameters.length) = some na) (hR : fr + 1 ≤ R.frames ∧ 8 + (maxL + 11) + lo ≤ R.locals) (hro : (rest.map fun v => v.category).sum ≤ 8) (hst : st = As.reverse ++ .ref b :: rest) (hd : decode cc pc = .ok (.invokevirtual index, 3)) (hf : cells + mc ≤ R.cells ∧ slots + ms ≤ R.slots) (kk : ∀ (r : Option Value) (M' : jM) (n' : Nat), Rt r M' n' → J p l e R s m args below meth c D ty cl b0 Q nL M' n' (cells + mc) (slots + ms) (pc + 3) L (r.toList ++ rest)) : J p l e R s m args below meth c D ty cl b0 Q nL M n cells slots pc L st := by
  intro H locs ls hH hS hL
  obtain ⟨hx, hb, hml, hown, hts, hK⟩ := id X
  subst hst
  refine j_ofRun (Rt := Rt) (a := (.ref b :: As).toArray) ?_ hS hL kk
  exact va_runVN (rest := rest) (As := As) ⟨hx, hb, hml, hown, hts⟩ hC ⟨va_cnB na hts hG hw rfl rfl (hK.2.1 _ hl) (hts _ hini) hdd hR, hts _ hi1, hts _ hi2⟩ ⟨j_blind hnw, (by obtain ⟨_, _, ws1, hP, _, hMw⟩ := id hH; obtain ⟨q0, hq⟩ := hMw _ _ hM; exact va_recv hK.1 hP (ci := ci) (q0 := q0) hc hq), fun U hU hW => ⟨rfl, by rw [hU]; exact hH, j_K.warm hnw hW hK⟩⟩ rfl hna hL.1 rfl (lv_room hro) hd hf
theorem j_callS (X : j_X p s m args c cc nL own Ts D ty cl nw) (hnw : nw.all j_nest = true) {y : MethodName} {ws ws' : List Cond} {maxL : Nat} {ret : Option FieldType} {fr lo index : Nat} {bytes : ByteArray} {na : Nat} {As rest : List Value} (hna : As.length = na) (hC : Ct l D ty cl nw b0 y ws fr lo mc ms (As) M n Rt) (hw : ws = Cond.code y bytes maxL ret :: ws') (hG : GoodIn Ts (va_wsS own index y ws)) (hdd : y.cls ≠ "java/lang/invoke/MethodHandle" ∧ y.cls ≠ "java/lang/invoke/VarHandle" ∧ (parseMethodDescriptor y.desc).map (fun d => d.parameters.length) = some na) (hR : fr + 1 ≤ R.frames ∧ 8 + (maxL + 11) + lo ≤ R.locals) (hro : (rest.map fun v => v.category).sum ≤ 8) (hst : st = As.reverse ++ rest) (hd : decode cc pc = .ok (.invokestatic index, 3)) (hf : cells + mc ≤ R.cells ∧ slots + ms ≤ R.slots) (kk : ∀ (r : Option Value) (M' : jM) (n' : Nat), Rt r M' n' → J p l e R s m args below meth c D ty cl b0 Q nL M' n' (cells + mc) (slots + ms) (pc + 3) L (r.toList ++ rest)) : J p l e R s m args below meth c D ty cl b0 Q nL M n cells slots pc L st := by
  intro H locs ls hH hS hL
  obtain ⟨hx, hb, hml, hown, hts, hK⟩ := id X
  subst hst
  refine j_ofRun (Rt := Rt) (a := (As).toArray) ?_ hS hL kk
  exact va_runS (rest := rest) (As := As) ⟨hx, hb, hml, hown, hts⟩ hC (va_cwS na hts hG hw rfl rfl hdd hR) ⟨j_blind hnw, fun U hU hW => ⟨rfl, by rw [hU]; exact hH, j_K.warm hnw hW hK⟩⟩ rfl hna hL.1 rfl (lv_room hro) hd hf
theorem j_callSN (X : j_X p s m args c cc nL own Ts D ty cl nw) (hnw : nw.all j_nest = true) {y : MethodName} {ws ws' : List Cond} {maxL : Nat} {ret : Option FieldType} {fr lo index : Nat} {bytes : ByteArray} {na : Nat} {As rest : List Value} {host : String} (hna : As.length = na) (hC : Ct l D ty cl nw b0 y ws fr lo mc ms (As) M n Rt) (hw : ws = Cond.code y bytes maxL ret :: ws') (hG : GoodIn Ts ws) (hl : Cond.methodLinkNest own index y host ∈ nw) (hini : Cond.initialized y.cls ∈ Ts) (hi1 : Cond.static y ∈ Ts) (hdd : y.cls ≠ "java/lang/invoke/MethodHandle" ∧ y.cls ≠ "java/lang/invoke/VarHandle" ∧ (parseMethodDescriptor y.desc).map (fun d => d.parameters.length) = some na) (hR : fr + 1 ≤ R.frames ∧ 8 + (maxL + 11) + lo ≤ R.locals) (hro : (rest.map fun v => v.category).sum ≤ 8) (hst : st = As.reverse ++ rest) (hd : decode cc pc = .ok (.invokestatic index, 3)) (hf : cells + mc ≤ R.cells ∧ slots + ms ≤ R.slots) (kk : ∀ (r : Option Value) (M' : jM) (n' : Nat), Rt r M' n' → J p l e R s m args below meth c D ty cl b0 Q nL M' n' (cells + mc) (slots + ms) (pc + 3) L (r.toList ++ rest)) : J p l e R s m args below meth c D ty cl b0 Q nL M n cells slots pc L st := by
  intro H locs ls hH hS hL
  obtain ⟨hx, hb, hml, hown, hts, hK⟩ := id X
  subst hst
  refine j_ofRun (Rt := Rt) (a := (As).toArray) ?_ hS hL kk
  exact va_runSN (rest := rest) (As := As) ⟨hx, hb, hml, hown, hts⟩ hC ⟨va_cnB na hts hG hw rfl rfl (hK.2.1 _ hl) (hts _ hini) hdd hR, hts _ hi1, trivial⟩ ⟨j_blind hnw, fun U hU hW => ⟨rfl, by rw [hU]; exact hH, j_K.warm hnw hW hK⟩⟩ rfl hna hL.1 rfl (lv_room hro) hd hf
theorem j_callI (X : j_X p s m args c cc nL own Ts D ty cl nw) (hnw : nw.all j_nest = true) {y : MethodName} {ws ws' : List Cond} {maxL : Nat} {ret : Option FieldType} {fr lo index : Nat} {bytes : ByteArray} {na : Nat} {As rest : List Value} {b : Nat} (hna : As.length = na) (hC : Ct l D ty cl nw b0 y ws fr lo mc ms (.ref b :: As) M n Rt) (hw : ws = Cond.code y bytes maxL ret :: ws') (hret : ret = none) (hG : GoodIn Ts ws) (hini : Cond.initialized y.cls ∈ Ts) (hl : Cond.methodLink own index y ∈ Ts) (hi1 : Cond.instanceMethod y ∈ Ts) (hy1 : y.name = "<init>") (hdd : y.cls ≠ "java/lang/invoke/MethodHandle" ∧ y.cls ≠ "java/lang/invoke/VarHandle" ∧ (parseMethodDescriptor y.desc).map (fun d => d.parameters.length) = some na) (hR : fr + 1 ≤ R.frames ∧ 8 + (maxL + 11) + lo ≤ R.locals) (hro : (rest.map fun v => v.category).sum ≤ 8) (hst : st = As.reverse ++ .ref b :: rest) (hd : decode cc pc = .ok (.invokespecial index, 3)) (hf : cells + mc ≤ R.cells ∧ slots + ms ≤ R.slots) (kk : ∀ (r : Option Value) (M' : jM) (n' : Nat), Rt r M' n' → J p l e R s m args below meth c D ty cl b0 Q nL M' n' (cells + mc) (slots + ms) (pc + 3) L (r.toList ++ rest)) : J p l e R s m args below meth c D ty cl b0 Q nL M n cells slots pc L st := by
  intro H locs ls hH hS hL
  obtain ⟨hx, hb, hml, hown, hts, hK⟩ := id X
  subst hst
  refine j_ofRun (Rt := Rt) (a := (.ref b :: As).toArray) ?_ hS hL kk
  exact va_runI (rest := rest) (As := As) ⟨hx, hb, hml, hown, hts⟩ hC (cwI na hts hG (hret ▸ hw) rfl rfl (hts _ hini) (hts _ hl) (hts _ hi1) hy1 hdd hR) ⟨j_blind hnw, fun U hU hW => ⟨rfl, by rw [hU]; exact hH, j_K.warm hnw hW hK⟩⟩ rfl hna hL.1 rfl (lv_room hro) hd hf
theorem j_callIN (X : j_X p s m args c cc nL own Ts D ty cl nw) (hnw : nw.all j_nest = true) {y : MethodName} {ws ws' : List Cond} {maxL : Nat} {ret : Option FieldType} {fr lo index : Nat} {bytes : ByteArray} {na : Nat} {As rest : List Value} {b : Nat} {host : String} (hna : As.length = na) (hC : Ct l D ty cl nw b0 y ws fr lo mc ms (.ref b :: As) M n Rt) (hw : ws = Cond.code y bytes maxL ret :: ws') (hret : ret = none) (hG : GoodIn Ts ws) (hini : Cond.initialized y.cls ∈ Ts) (hl : Cond.methodLinkNest own index y host ∈ nw) (hi1 : Cond.instanceMethod y ∈ Ts) (hy1 : y.name = "<init>") (hdd : y.cls ≠ "java/lang/invoke/MethodHandle" ∧ y.cls ≠ "java/lang/invoke/VarHandle" ∧ (parseMethodDescriptor y.desc).map (fun d => d.parameters.length) = some na) (hR : fr + 1 ≤ R.frames ∧ 8 + (maxL + 11) + lo ≤ R.locals) (hro : (rest.map fun v => v.category).sum ≤ 8) (hst : st = As.reverse ++ .ref b :: rest) (hd : decode cc pc = .ok (.invokespecial index, 3)) (hf : cells + mc ≤ R.cells ∧ slots + ms ≤ R.slots) (kk : ∀ (r : Option Value) (M' : jM) (n' : Nat), Rt r M' n' → J p l e R s m args below meth c D ty cl b0 Q nL M' n' (cells + mc) (slots + ms) (pc + 3) L (r.toList ++ rest)) : J p l e R s m args below meth c D ty cl b0 Q nL M n cells slots pc L st := by
  intro H locs ls hH hS hL
  obtain ⟨hx, hb, hml, hown, hts, hK⟩ := id X
  subst hst
  refine j_ofRun (Rt := Rt) (a := (.ref b :: As).toArray) ?_ hS hL kk
  exact va_runIN (rest := rest) (As := As) ⟨hx, hb, hml, hown, hts⟩ hC ⟨va_cnB na hts hG (hret ▸ hw) rfl rfl (hK.2.1 _ hl) (hts _ hini) hdd hR, hy1, hts _ hi1⟩ ⟨j_blind hnw, fun U hU hW => ⟨rfl, by rw [hU]; exact hH, j_K.warm hnw hW hK⟩⟩ rfl hna hL.1 rfl (lv_room hro) hd hf
theorem j_max (X : j_X p s m args c cc nL own Ts D ty cl nw) {index : Nat} {x y : Int32} (hlink : Cond.methodLink own index Lib.Math.max.name ∈ Ts) (hstat : Cond.static Lib.Math.max.name ∈ Ts) (hini : Cond.initialized "java/lang/Math" ∈ Ts) (hcode : Cond.code Lib.Math.max.name Lib.Math.max.code 2 (some .int) ∈ Ts) (hfr : 1 ≤ R.frames) (hlo : (st.map fun v => v.category).sum + 13 ≤ R.locals) (hc : cells ≤ R.cells) (hs : slots ≤ R.slots) (hd : decode cc pc = .ok (.invokestatic index, 3)) (kk : J p l e R s m args below meth c D ty cl b0 Q nL M n cells slots (pc + 3) L (.int (if x < y then y else x) :: st)) : J p l e R s m args below meth c D ty cl b0 Q nL M n cells slots pc L (.int y :: .int x :: st) := fun H locs ls hH hS hL => va_mmax X.1 X.2.1 (X.2.2.1.trans hL.1.symm) X.2.2.2.1 (X.2.2.2.2.1 _ hlink) (X.2.2.2.2.1 _ hstat) (X.2.2.2.2.1 _ hini) (X.2.2.2.2.1 _ hcode) hfr hlo hc hs hd (kk H locs ls hH hS hL)
theorem j_min (X : j_X p s m args c cc nL own Ts D ty cl nw) {index : Nat} {x y : Int32} (hlink : Cond.methodLink own index Lib.Math.min.name ∈ Ts) (hstat : Cond.static Lib.Math.min.name ∈ Ts) (hini : Cond.initialized "java/lang/Math" ∈ Ts) (hcode : Cond.code Lib.Math.min.name Lib.Math.min.code 2 (some .int) ∈ Ts) (hfr : 1 ≤ R.frames) (hlo : (st.map fun v => v.category).sum + 13 ≤ R.locals) (hc : cells ≤ R.cells) (hs : slots ≤ R.slots) (hd : decode cc pc = .ok (.invokestatic index, 3)) (kk : J p l e R s m args below meth c D ty cl b0 Q nL M n cells slots (pc + 3) L (.int (if y < x then y else x) :: st)) : J p l e R s m args below meth c D ty cl b0 Q nL M n cells slots pc L (.int y :: .int x :: st) := fun H locs ls hH hS hL => va_mmin X.1 X.2.1 (X.2.2.1.trans hL.1.symm) X.2.2.2.1 (X.2.2.2.2.1 _ hlink) (X.2.2.2.2.1 _ hstat) (X.2.2.2.2.1 _ hini) (X.2.2.2.2.1 _ hcode) hfr hlo hc hs hd (kk H locs ls hH hS hL)
theorem j_abs (X : j_X p s m args c cc nL own Ts D ty cl nw) {index : Nat} {x : Int32} (hlink : Cond.methodLink own index Lib.Math.abs.name ∈ Ts) (hstat : Cond.static Lib.Math.abs.name ∈ Ts) (hini : Cond.initialized "java/lang/Math" ∈ Ts) (hcode : Cond.code Lib.Math.abs.name Lib.Math.abs.code 1 (some .int) ∈ Ts) (hfr : 1 ≤ R.frames) (hlo : (st.map fun v => v.category).sum + 13 ≤ R.locals) (hc : cells ≤ R.cells) (hs : slots ≤ R.slots) (hd : decode cc pc = .ok (.invokestatic index, 3)) (kk : J p l e R s m args below meth c D ty cl b0 Q nL M n cells slots (pc + 3) L (.int (if 0 ≤ x then x else 0 - x) :: st)) : J p l e R s m args below meth c D ty cl b0 Q nL M n cells slots pc L (.int x :: st) := fun H locs ls hH hS hL => va_mabs X.1 X.2.1 (X.2.2.1.trans hL.1.symm) X.2.2.2.1 (X.2.2.2.2.1 _ hlink) (X.2.2.2.2.1 _ hstat) (X.2.2.2.2.1 _ hini) (X.2.2.2.2.1 _ hcode) hfr hlo hc hs hd (kk H locs ls hH hS hL)
end JC
