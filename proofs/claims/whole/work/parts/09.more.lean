/-! More rows of J. -/
section JM
variable {p : Program} {l : Launch} {e : Env} {R : Room} {s : State} {m : MethodId} {args : Array Value} {below : List Frame} {meth : Method} {c : Code} {D : va_G} {ty : jT} {cl : List vw_C} {nw : List Cond} {b0 : Nat} {Q : State → Prop} {nL : Nat} {M : jM} {n cells slots pc : Nat} {L : List (Option Value)} {st : List Value}
/-- a cell of the memory lies below n -/
theorem j_lt {a : Nat} {x : jE} (h : M a = some x) (k : b0 ≤ a ∧ a < n → J p l e R s m args below meth c D ty cl b0 Q nL M n cells slots pc L st) : J p l e R s m args below meth c D ty cl b0 Q nL M n cells slots pc L st := fun H locs ls hH hS hL => k (hH.lt h) H locs ls hH hS hL
end JM
