/-! A contract of a method of the JDK's, out of the walk of its body (no native stands in its place). -/
theorem j_ofWF {l : Launch} {y : MethodName} {ws ws' : List Cond} {rm : Room} {Pc : Array Value → State → Prop} {Qc : Array Value → State → Outcome → State → Prop} {mc ms : Nat} {free : Addr → Prop} {cc : ByteArray} {maxL : Nat} {ret : Option FieldType}
    (hy : plainFor y = true) (hw : ws = Cond.code y cc maxL ret :: ws')
    (body : ∀ p e s m args below meth c s₁, BodyLoose p l y (headSpec ws rm) cc maxL ret e s m args below meth c s₁ → c.maxLocals = maxL → Pc args s →
      W p l e (headSpec ws rm).room s m args below meth c s.heap [] 0 0 (MQ below Qc args s mc ms free) (entryFrame m args maxL)) : Met l y ws rm Pc Qc mc ms free := by
  refine MetFree.of_bodySF (code := cc) (maxLocals := maxL) (ret := ret) hy ?_ ?_
  · intro args s m h hn
    obtain ⟨meth, c, h1, h2, h3, h4, h5, h6, -, -⟩ := Cond.code_spec hn (atoms_spec (ws := ws) h _ (by rw [hw]; exact List.mem_cons_self))
    exact ⟨meth, c, h1, h2, h3, h4, h5, h6⟩
  · intro p e s m args below meth c s₁ B hml hP _
    have hh0 : s₁.heap = s.heap := by rw [B.state]; rfl
    obtain ⟨t, a1, o, b1, b2, b3⟩ := body p e s m args below meth c s₁ B hml hP s₁ hh0 (Stand.of_body B)
    exact ⟨t, o, a1, b1, b2, ⟨b3.1, b3.2⟩⟩
theorem j_startF {l : Launch} {D : va_G} {ty : jT} {cl : List vw_C} {nw : List Cond} {b0 : Nat} {M : jM} {n : Nat} {cc : ByteArray} {Rt : Option Value → jM → Nat → Prop} {mc ms : Nat} {y : MethodName} {ws ws' : List Cond} {maxL : Nat} {ret : Option FieldType} {fr lo : Nat} {as : List Value} (hy : plainFor y = true) (hw : ws = Cond.code y cc maxL ret :: ws') (L0 : List (Option Value)) (hlen : (j_a0 as).length ≤ maxL) (h0 : j_a0 as ++ List.replicate (maxL - (j_a0 as).length) none = L0)
    (body : ∀ (p : Program) (e : Env) (s : State) (m : MethodId) (below : List Frame) (meth : Method) (c : Code), j_X p s m as.toArray c cc maxL y.cls ws D ty cl nw → meth.locks = false → meth.sig.returnType = ret → meth.name = y.name →
      J p l e { frames := fr, cells := mc, slots := ms, locals := lo } s m as.toArray below meth c D ty cl b0 (MQ below (j_Q D ty cl b0 Rt) as.toArray s mc ms (fun q => b0 ≤ q)) maxL M n 0 0 0 L0 []) :
    Ct l D ty cl nw b0 y ws fr lo mc ms as M n Rt := by
  refine j_ofWF (cc := cc) (maxL := maxL) (ret := ret) hy hw ?_
  intro p e s m args below meth c s₁ B hml hv
  obtain ⟨rfl, hH, hK⟩ := hv
  rw [lg_entry_eq]
  exact body p e s m below meth c ⟨B.exec, B.bytes, hml, findClass_of_methodNamed B.named, atoms_spec (ws := ws) B.pre, hK⟩ B.notSynchronized B.returns (name_of_methodNamed B.named B.method).1 s.heap [] _ hH va_S.rf (j_L0 hlen h0)
