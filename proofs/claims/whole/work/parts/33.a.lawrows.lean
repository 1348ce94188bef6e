/-! THE CLAIM OUT OF ONE WALK OF THE LAW'S BODY. Your part is whole_start (and what it stands on); all else here is the same for every law, but numbers. -/
def R_law : String := "StreamQueryLaw"
def lw_P (b : Addr) (xs : List Int32) (args : Array Value) (s : State) : Prop := args = #[.ref b] ∧ s.IntsAt b xs ∧ xs.length ≤ 3584 ∧ (Jvm.Cond.and given_1 narrow_1).before args s = true
def lw_Q (_ : Array Value) (s : State) (o : Outcome) (t : State) : Prop := o = .returned (some (.int 1)) ∧ Framed s o t [] 633548 7201603
def lw_Z (below : List Frame) (a : Array Value) (s : State) : State → Prop := fun t => ∃ o, t.status = .running ∧ Ended t below o ∧ lw_Q a s o t
/-- the law's own end, with 1 on the stack, nothing written that was there before, its room as the claim has it -/
theorem lw_ret {p : Program} {l : Launch} {e : Env} {s : State} {m : MethodId} {below : List Frame} {meth : Method} {c : Code} {b : Nat} (hx : p.tables.exec = Jvm.exec) (hb : c.code = code) (hr : meth.sig.returnType = ret) (hlocks : meth.locks = false) {pc : Nat} {H : Heap} {ls : Array Slot} (hdg : decode code pc = .ok (.ireturn, 1)) : W p l e room_1 s m #[Value.ref b] below meth c H [] 633548 7201603 (lw_Z below #[Value.ref b] s) (F0 m pc ls [.int 1]) := by
  intro T hT X
  obtain ⟨fs, hret, hrun, hended, hW, hframe⟩ := X.leave (v := some (.int 1)) (hlocks := hlocks) (fun h => by rw [hr] at h; cases h)
  have hmeth' : T.vm.method? m = some meth := X.method'
  refine ⟨T.setFrames fs, ?_, .returned (some (.int 1)), hrun, hended, rfl, ⟨_, rfl⟩, hW, hframe⟩
  jvm_step X.here [X.here.top, hx, hb, hdg, hmeth', hr, ret, narrow_b1]
  (try refine ⟨rfl, ?_⟩); (try refine ⟨rfl, ?_⟩)
  first | (intro acts; rw [hret _ acts rfl rfl rfl]) | rw [hret _ _ rfl rfl rfl]
  exact Steps.refl _
/-- what holds at the law's entry: the machine, the code, the tables' words (any of lw_tbl by 'hts w (by decide +kernel)'), the script of L ints xs at the cell b, what the Statement gives of the start (any of its parts by flat_of_before) -/
def lw_At (p : Program) (s : State) (m : MethodId) (meth : Method) (c : Code) (b L : Nat) (xs : Nat → Int32) : Prop :=
  p.tables.exec = Jvm.exec ∧ c.code = code ∧ meth.sig.returnType = ret ∧ c.maxLocals = 4 ∧ s.vm.findClass R_law = some m.cls ∧ (∀ w ∈ lw_tbl, w.before #[Value.ref b] s = true) ∧ va_X b L xs s s.heap ∧ b < s.heap.size ∧ meth.locks = false ∧ (Jvm.Cond.and given_1 narrow_1).before #[Value.ref b] s = true
section JL
variable {p : Program} {l : Launch} {e : Env} {R : Room} {s : State} {m : MethodId} {args : Array Value} {below : List Frame} {meth : Method} {c : Code} {D : va_G} {ty : jT} {cl : List vw_C} {nw : List Cond} {b0 : Nat} {Q : State → Prop} {nL : Nat} {M : jM} {n cells slots pc : Nat} {L L2 : List (Option Value)} {st : List Value} {cc : ByteArray} {own : String} {Ts : List Cond}
/-- the law's own script: its length, its ints -/
theorem j_slen (X : j_X p s m args c cc nL own Ts D ty cl nw) {b N : Nat} {xs : Nat → Int32} (hX : va_X b N xs s s.heap) (hbl : b < s.heap.size) (hb0 : b0 = s.heap.size) (hd : decode cc pc = .ok (.arraylength, 1)) (kk : J p l e R s m args below meth c D ty cl b0 Q nL M n cells slots (pc + 1) L (.int (nI N) :: st)) : J p l e R s m args below meth c D ty cl b0 Q nL M n cells slots pc L (.ref b :: st) := fun H locs ls hH hS hL => va_slen X.1 X.2.1 hX hbl (show ¬ b0 ≤ b from by omega) hS hd (kk H locs ls hH hS hL)
theorem j_sld (X : j_X p s m args c cc nL own Ts D ty cl nw) {b N : Nat} {xs : Nat → Int32} (hX : va_X b N xs s s.heap) (hbl : b < s.heap.size) (hb0 : b0 = s.heap.size) {i v : Int32} (hin : vp_in i N) (hv : xs i.toNatClampNeg = v) (hd : decode cc pc = .ok (.iaload, 1)) (kk : J p l e R s m args below meth c D ty cl b0 Q nL M n cells slots (pc + 1) L (.int v :: st)) : J p l e R s m args below meth c D ty cl b0 Q nL M n cells slots pc L (.int i :: .ref b :: st) := fun H locs ls hH hS hL => va_sld X.1 X.2.1 hX hbl (show ¬ b0 ≤ b from by omega) hS hin hd (by rw [hv]; exact kk H locs ls hH hS hL)
/-- the law's end -/
theorem j_lend {b : Nat} (X : j_X p s m #[Value.ref b] c code nL own Ts D ty cl nw) (hb0 : b0 = s.heap.size) (hr : meth.sig.returnType = ret) (hlk : meth.locks = false) (hc : cells ≤ 633548) (hs : slots ≤ 7201603) (hd : decode code pc = .ok (.ireturn, 1)) : J p l e room_1 s m #[Value.ref b] below meth c D ty cl b0 (lw_Z below #[Value.ref b] s) nL M n cells slots pc L [.int 1] := fun H locs ls hH hS hL => va_forget (fun q hq => by have := hS.2.2 q hq; rw [hb0] at this; exact this) (W.widen hc hs (lw_ret X.1 X.2.1 hr hlk hd))
end JL
theorem arr_I {args : Array Value} {s : State} (h : (Cond.arrayClass .int).before args s = true) : ∃ cI : ClassId, ArrOfT s cI .int ∧ s.vm.findClass ("[" ++ (FieldType.int).toString) = some cI := by
  obtain ⟨cA, kA, comp, hfind, hk, hkind⟩ := Cond.arrayClass_spec h
  exact ⟨cA, fun n z => ⟨fun k h => (by cases h), kA, hk, comp, hkind⟩, hfind⟩
theorem nI_7 (j : Nat) : nI (7 * j) + 7 = nI (7 * (j + 1)) := (nI_add (7 * j) 7).trans (congrArg nI (by omega))
theorem law_go {j N : Nat} (hN : N ≤ 3584) (hj : 7 * j ≤ N) (h : ¬ nI N - 7 < nI (7 * j)) : 7 * j + 7 ≤ N := by
  have h1 : (nI N - 7).toInt = (N : Int) - 7 := by
    have c7 : (7 : Int32).toInt = 7 := by decide
    have := nI_toInt (n := N) (by omega)
    rw [i_sub (by omega) (by omega), this, c7]
  have h2 := nI_toInt (n := 7 * j) (by omega)
  have h3 : ¬ (nI N - 7).toInt < (nI (7 * j)).toInt := fun q => h (i_lt.mpr q)
  omega
