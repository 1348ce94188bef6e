theorem up_up (f : Nat → Int32) (k : Nat) (x : Int32) : upd (upd f k x) k x = upd f k x := by
  funext j
  by_cases h : j = k
  · subst h; simp [upd]
  · simp [upd, h]
