/-! Class and reference side by side: what holds between two calls of the law. -/
theorem SQ.frame {M M' : jM} {x nb : Nat} {w sl la sp rm ln mA mB lt pr tl tk : Int32} {A B : List Ev} {cs : List Nd} {qu : List Rec} (h : SQ M x nb w sl la sp rm ln mA mB lt pr tl tk A B cs qu) (hf : ∀ q, (x ≤ q ∧ q ≤ x + 12 ∨ nb ≤ q) → M' q = M q) : SQ M' x nb w sl la sp rm ln mA mB lt pr tl tk A B cs qu := by
  obtain ⟨h1, h2, h3, h4, h5, h6, h7, h8⟩ := h
  refine ⟨by rw [hf x (by omega)]; exact h1, h2.frame (fun q _ _ => hf q (by omega)), h3.frame (fun q _ _ => hf q (by omega)), h4.frame (fun q hq => ?_), h5.frame (fun q _ _ => hf q (by omega)), h6, h7, h8⟩
  rcases hq with rfl | rfl | ⟨z, hz, rfl⟩
  · exact hf _ (by omega)
  · exact hf _ (by omega)
  · have := h7 z hz
    exact hf _ (by omega)
def NV (w sl la sp rm ln mA mB : Int32) (A B : List Ev) (cs : List Nd) (qu : List Rec) (c : Nat) : Prop :=
  okI w sl la sp rm ln ∧ (-2000000000 ≤ mA.toInt ∧ mA.toInt ≤ 1000000000) ∧ (-2000000000 ≤ mB.toInt ∧ mB.toInt ≤ 1000000000) ∧ (∀ e ∈ A, -1000000000 ≤ e.1.toInt ∧ e.1.toInt ≤ 1000000000) ∧ (∀ e ∈ B, -1000000000 ≤ e.1.toInt ∧ e.1.toInt ≤ 1000000000) ∧ ((A.length + B.length : Nat) : Int) ≤ rm.toInt ∧ (qu.length : Int) ≤ ln.toInt ∧ GL w.toInt sl.toInt ((mn mA mB).toInt - la.toInt) A (cs.map Prod.snd) ∧ cs.length ≤ 16 * c
def Inv (x : Nat) (M : jM) (n c : Nat) : Prop := ∃ (w sl la sp rm ln mA mB lt pr tl tk : Int32) (A B : List Ev) (cs : List Nd) (qu : List Rec), SQ M x (x + 20) w sl la sp rm ln mA mB lt pr tl tk A B cs qu ∧ RF M (x + 13) w sl la sp rm ln mA mB lt pr tl tk A B qu ∧ NV w sl la sp rm ln mA mB A B cs qu c ∧ x + 20 ≤ n
theorem NV.more {w sl la sp rm ln mA mB : Int32} {A B : List Ev} {cs : List Nd} {qu : List Rec} {c : Nat} (h : NV w sl la sp rm ln mA mB A B cs qu c) : NV w sl la sp rm ln mA mB A B cs qu (c + 1) := by
  obtain ⟨h1, h2, h3, h4, h5, h6, h7, h8, h9⟩ := h
  exact ⟨h1, h2, h3, h4, h5, h6, h7, h8, by omega⟩
theorem RF.cell {M : jM} {m : Nat} {w sl la sp rm ln mA mB lt pr tl tk : Int32} {A B : List Ev} {qu : List Rec} (h : RF M m w sl la sp rm ln mA mB lt pr tl tk A B qu) : ∃ fs, M m = some (.inr (5, fs)) := by
  obtain ⟨_, _, _, _, _, _, _, _, _, _, h0, _⟩ := h
  exact ⟨_, h0⟩
theorem NV.late {w sl la sp rm ln mA mB : Int32} {A B : List Ev} {cs : List Nd} {qu : List Rec} {c : Nat} (h : NV w sl la sp rm ln mA mB A B cs qu c) {t : Int32} : mn mA mB - la ≤ t ↔ (mn mA mB).toInt - la.toInt ≤ t.toInt := by
  obtain ⟨⟨_, _, h1, _⟩, h2, h3, _⟩ := h
  have hm := mn_int (a := mA) (b := mB)
  have : (mn mA mB - la).toInt = (mn mA mB).toInt - la.toInt := i_sub (by omega) (by omega)
  rw [i_le, this]
theorem NV.room {w sl la sp rm ln mA mB : Int32} {A B : List Ev} {cs : List Nd} {qu : List Rec} {c : Nat} (h : NV w sl la sp rm ln mA mB A B cs qu c) : (nI (A.length + B.length) < rm ↔ ((A.length + B.length : Nat) : Int) < rm.toInt) ∧ (¬ nI (A.length + B.length) < rm → nI (A.length + B.length) = rm) := by
  obtain ⟨⟨_, _, _, _, h1, _⟩, _, _, _, _, h6, _⟩ := h
  have hn : (nI (A.length + B.length)).toInt = ((A.length + B.length : Nat) : Int) := nI_toInt (by omega)
  refine ⟨by rw [i_lt, hn], fun q => i_eq.mpr ?_⟩
  have : ¬ (nI (A.length + B.length)).toInt < rm.toInt := fun z => q (i_lt.mpr z)
  rw [hn] at this ⊢
  omega
theorem NV.queue {w sl la sp rm ln mA mB : Int32} {A B : List Ev} {cs : List Nd} {qu : List Rec} {c j : Nat} (h : NV w sl la sp rm ln mA mB A B cs qu c) (hj : j ≤ 1000000) : nI (qu.length + j) ≤ ln ↔ ((qu.length + j : Nat) : Int) ≤ ln.toInt := by
  obtain ⟨⟨_, _, _, _, _, h1⟩, _, _, _, _, _, h7, _⟩ := h
  have hn : (nI (qu.length + j)).toInt = ((qu.length + j : Nat) : Int) := nI_toInt (by omega)
  rw [i_le, hn]
theorem okT_int {t : Int32} (h : -1000000000 ≤ t ∧ t ≤ 1000000000) : -1000000000 ≤ t.toInt ∧ t.toInt ≤ 1000000000 := by
  have h1 := i_le.mp h.1
  have h2 := i_le.mp h.2
  have c1 : (-1000000000 : Int32).toInt = -1000000000 := by decide
  have c2 : (1000000000 : Int32).toInt = 1000000000 := by decide
  omega
theorem cnt_le {l : List Ev} {p : Ev → Bool} : (l.filter p).length = l.countP p := List.countP_eq_length_filter.symm
theorem NV.addA {w sl la sp rm ln mA mB : Int32} {A B : List Ev} {cs : List Nd} {qu : List Rec} {c : Nat} {cs' : List Nd} {rs : List Rec} {t k v : Int32} (h : NV w sl la sp rm ln mA mB A B cs qu c) (ht : -1000000000 ≤ t.toInt ∧ t.toInt ≤ 1000000000) (hl : (mn mA mB).toInt - la.toInt ≤ t.toInt) (hr : ((A.length + B.length : Nat) : Int) < rm.toInt) (hq : ((qu.length + rs.length : Nat) : Int) ≤ ln.toInt) (hcs : cs'.map Prod.snd = (endsF t w sl 16 ((fd (t - w) sl + 1) * sl)).foldl (fun gs e => ups e k v gs) (cs.map Prod.snd)) : NV w sl la sp rm ln mA mB (A ++ [(t, k, v)]) B cs' (qu ++ rs) (c + 1) := by
  obtain ⟨h1, h2, h3, h4, h5, h6, h7, h8, h9⟩ := h
  obtain ⟨hN, h16, hla, hsp, hrm, hln⟩ := id h1
  obtain ⟨_, e1, e2, e3⟩ := ends_ok hN h16 ht hl
  refine ⟨h1, h2, h3, fun e he => ?_, h5, ?_, ?_, ?_, ?_⟩
  · rcases List.mem_append.mp he with he | he
    · exact h4 e he
    · rw [List.mem_singleton.mp he]; exact ht
  · rw [List.length_append]
    show ((A.length + 1 + B.length : Nat) : Int) ≤ _
    omega
  · rw [List.length_append]; exact hq
  · rw [hcs]
    exact GL_add (by omega) h8 e1 e2 e3
  · have q1 : cs'.length = ((endsF t w sl 16 ((fd (t - w) sl + 1) * sl)).foldl (fun gs e => ups e k v gs) (cs.map Prod.snd)).length := by rw [← hcs, List.length_map]
    have q2 := fold_len (k := k) (v := v) (es := endsF t w sl 16 ((fd (t - w) sl + 1) * sl)) (G := cs.map Prod.snd)
    have q3 := endsF_len (t := t) (w := w) (sl := sl) (n := 16) (b := (fd (t - w) sl + 1) * sl)
    rw [List.length_map] at q2
    omega
theorem NV.addB {w sl la sp rm ln mA mB : Int32} {A B : List Ev} {cs : List Nd} {qu : List Rec} {c : Nat} {rs : List Rec} {t k v : Int32} (h : NV w sl la sp rm ln mA mB A B cs qu c) (ht : -1000000000 ≤ t.toInt ∧ t.toInt ≤ 1000000000) (hr : ((A.length + B.length : Nat) : Int) < rm.toInt) (hq : ((qu.length + rs.length : Nat) : Int) ≤ ln.toInt) : NV w sl la sp rm ln mA mB A (B ++ [(t, k, v)]) cs (qu ++ rs) (c + 1) := by
  obtain ⟨h1, h2, h3, h4, h5, h6, h7, h8, h9⟩ := h
  refine ⟨h1, h2, h3, h4, fun e he => ?_, ?_, ?_, h8, by omega⟩
  · rcases List.mem_append.mp he with he | he
    · exact h5 e he
    · rw [List.mem_singleton.mp he]; exact ht
  · rw [List.length_append]
    show ((A.length + (B.length + 1) : Nat) : Int) ≤ _
    omega
  · rw [List.length_append]; exact hq
/-- what a mark tells, and what it leaves -/
theorem NV.split {w sl la sp rm ln mA mB : Int32} {A B : List Ev} {cs : List Nd} {qu : List Rec} {c : Nat} (h : NV w sl la sp rm ln mA mB A B cs qu c) {k : Int32} (hk : -2000000000 ≤ k.toInt ∧ k.toInt ≤ 1000000000) :
    cs.map Prod.snd = (cs.takeWhile (fun x : Nd => decide (x.2.1 ≤ k - la))).map Prod.snd ++ (cs.drop (cs.takeWhile (fun x : Nd => decide (x.2.1 ≤ k - la))).length).map Prod.snd ∧ (∀ g ∈ (cs.takeWhile (fun x : Nd => decide (x.2.1 ≤ k - la))).map Prod.snd, g.1.toInt ≤ k.toInt - la.toInt) ∧ ∀ g ∈ (cs.drop (cs.takeWhile (fun x : Nd => decide (x.2.1 ≤ k - la))).length).map Prod.snd, k.toInt - la.toInt < g.1.toInt := by
  obtain ⟨⟨_, _, hla, _⟩, h2, h3, h4, h5, h6, h7, h8, h9⟩ := h
  have hkl : (k - la).toInt = k.toInt - la.toInt := i_sub (by omega) (by omega)
  refine ⟨?_, fun g hg => ?_, fun g hg => ?_⟩
  · have := List.take_append_drop (cs.takeWhile (fun x : Nd => decide (x.2.1 ≤ k - la))).length cs
    rw [tw_take] at this
    rw [← List.map_append, this]
  · obtain ⟨z, hz, rfl⟩ := List.mem_map.mp hg
    have := tw_all _ cs z hz
    have := i_le.mp (of_decide_eq_true this)
    rw [hkl] at this
    exact this
  · obtain ⟨z, hz, rfl⟩ := List.mem_map.mp hg
    have := tw_rest h8.1 z hz
    rw [hkl] at this
    exact this
theorem NV.mark {w sl la sp rm ln mA mB a b : Int32} {A B : List Ev} {cs : List Nd} {qu : List Rec} {c : Nat} (h : NV w sl la sp rm ln mA mB A B cs qu c) (ha : -2000000000 ≤ a.toInt ∧ a.toInt ≤ 1000000000) (hb : -2000000000 ≤ b.toInt ∧ b.toInt ≤ 1000000000) (hab : (mn mA mB).toInt ≤ (mn a b).toInt) (hq : ((qu.length + (cs.takeWhile (fun x : Nd => decide (x.2.1 ≤ mn a b - la))).length : Nat) : Int) ≤ ln.toInt) :
    NV w sl la sp rm ln a b (A.filter (fun e : Ev => (kpA w.toInt sl.toInt la.toInt sp.toInt (mn a b).toInt) e.1.toInt)) (B.filter (fun e : Ev => (kpB la.toInt sp.toInt (mn a b).toInt) e.1.toInt)) (cs.drop (cs.takeWhile (fun x : Nd => decide (x.2.1 ≤ mn a b - la))).length) (qu ++ ((cs.takeWhile (fun x : Nd => decide (x.2.1 ≤ mn a b - la))).map Prod.snd).map (fun g : Grp => ((1, g) : Rec))) (c + 1) := by
  have hm := mn_int (a := a) (b := b)
  obtain ⟨s1, s2, s3⟩ := h.split (k := mn a b) (by omega)
  obtain ⟨h1, h2, h3, h4, h5, h6, h7, h8, h9⟩ := h
  obtain ⟨hN, h16, hla, hsp, hrm, hln⟩ := id h1
  have lA := List.length_filter_le (fun e : Ev => (kpA w.toInt sl.toInt la.toInt sp.toInt (mn a b).toInt) e.1.toInt) A
  have lB := List.length_filter_le (fun e : Ev => (kpB la.toInt sp.toInt (mn a b).toInt) e.1.toInt) B
  refine ⟨h1, ha, hb, fun e he => h4 e (List.mem_filter.mp he).1, fun e he => h5 e (List.mem_filter.mp he).1, by omega, ?_, ?_, ?_⟩
  · rw [List.length_append, List.length_map, List.length_map]; exact hq
  · rw [s1] at h8
    refine GL_mark hN.1.1 hN.2.1 h16 h8 (by omega) s2 s3 (fun e he hlt => ?_)
    show kpA _ _ _ _ _ _ = true
    unfold kpA
    rw [decide_eq_false (show ¬ lastE w.toInt sl.toInt e.1.toInt + la.toInt ≤ (mn a b).toInt by omega), Bool.not_false, Bool.or_true]
  · rw [List.length_drop]; omega
theorem NV.start {w sl la sp rm ln : Int32} {c : Nat} (h : okI w sl la sp rm ln) : NV w sl la sp rm ln (-2000000000) (-2000000000) [] [] [] [] c := by
  have c1 : (-2000000000 : Int32).toInt = -2000000000 := by decide
  refine ⟨h, by rw [c1]; omega, by rw [c1]; omega, fun e he => absurd he List.not_mem_nil, fun e he => absurd he List.not_mem_nil, ?_, ?_, GL_nil, Nat.zero_le _⟩
  · obtain ⟨_, _, _, _, h5, _⟩ := h
    show (0 : Int) ≤ _
    omega
  · obtain ⟨_, _, _, _, _, h6⟩ := h
    show (0 : Int) ≤ _
    omega
/-- a call on both: it answers alike, and what holds between calls is kept -/
def Op (l : Launch) (D : va_G) (ty : jT) (b0 x : Nat) (yc : MethodName) (wsc : List Cond) (frc loc mc ms : Nat) (ac : List Value) (yr : MethodName) (wsr : List Cond) (frr lor : Nat) (ar : List Value) (M : jM) (n c : Nat) : Prop :=
  (∃ fs, M x = some (.inr (4, fs))) ∧ ∃ Rt1, Ct l D ty vwCl nwSQ b0 yc wsc frc loc mc ms (.ref x :: ac) M n Rt1 ∧ ∀ r M' n', Rt1 r M' n' → ∃ R : Int32, r = some (.int R) ∧ (∃ fs, M' (x + 13) = some (.inr (5, fs))) ∧ ∃ Rt2, Ct l D ty vwCl nwSQ b0 yr wsr frr lor 0 0 (.ref (x + 13) :: ar) M' n' Rt2 ∧ ∀ r2 M'' n'', Rt2 r2 M'' n'' → r2 = some (.int R) ∧ Inv x M'' n'' (c + 1)
