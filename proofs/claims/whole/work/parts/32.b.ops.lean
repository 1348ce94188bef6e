/-! Each call of the law. -/
theorem op_rd (l : Launch) (D : va_G) {ty : jT} {cA : ClassId} (hI : ty[0]? = some (cA, .int)) (b0 : Nat) {x : Nat} {M : jM} {n c : Nat} {w sl la sp rm ln mA mB lt pr tl tk : Int32} {A B : List Ev} {cs : List Nd} {qu : List Rec} (hS : SQ M x (x + 20) w sl la sp rm ln mA mB lt pr tl tk A B cs qu) (hR : RF M (x + 13) w sl la sp rm ln mA mB lt pr tl tk A B qu) (hV : NV w sl la sp rm ln mA mB A B cs qu c) (hn : x + 20 ≤ n) {yc : MethodName} {wsc : List Cond} {frc loc mc ms : Nat} {ac : List Value} {yr : MethodName} {wsr : List Cond} {frr lor : Nat} {ar : List Value} {v : Int32} (h1 : Ct l D ty vwCl nwSQ b0 yc wsc frc loc mc ms (.ref x :: ac) M n (j_rd (.int v) M n)) (h2 : Ct l D ty vwCl nwSQ b0 yr wsr frr lor 0 0 (.ref (x + 13) :: ar) M n (j_rd (.int v) M n)) : Op l D ty b0 x yc wsc frc loc mc ms ac yr wsr frr lor ar M n c := by
  refine ⟨⟨_, hS.1⟩, _, h1, fun r M' n' hr => ?_⟩
  obtain ⟨rfl, rfl, rfl⟩ := hr
  refine ⟨v, rfl, hR.cell, _, h2, fun r2 M'' n'' hr2 => ?_⟩
  obtain ⟨rfl, rfl, rfl⟩ := hr2
  exact ⟨rfl, ⟨_, _, _, _, _, _, _, _, _, _, _, _, _, _, _, _, hS, hR, hV.more, hn⟩⟩
/-- the class reads, the reference leaves its picture as it was -/
theorem op_rr (l : Launch) (D : va_G) {ty : jT} {cA : ClassId} (hI : ty[0]? = some (cA, .int)) (b0 : Nat) {x : Nat} {M : jM} {n c : Nat} {w sl la sp rm ln mA mB lt pr tl tk : Int32} {A B : List Ev} {cs : List Nd} {qu : List Rec} (hS : SQ M x (x + 20) w sl la sp rm ln mA mB lt pr tl tk A B cs qu) (hR : RF M (x + 13) w sl la sp rm ln mA mB lt pr tl tk A B qu) (hV : NV w sl la sp rm ln mA mB A B cs qu c) (hn : x + 20 ≤ n) {yc : MethodName} {wsc : List Cond} {frc loc mc ms : Nat} {ac : List Value} {yr : MethodName} {wsr : List Cond} {frr lor : Nat} {ar : List Value} {v : Int32} (h1 : Ct l D ty vwCl nwSQ b0 yc wsc frc loc mc ms (.ref x :: ac) M n (j_rd (.int v) M n)) (h2 : Ct l D ty vwCl nwSQ b0 yr wsr frr lor 0 0 (.ref (x + 13) :: ar) M n (fun r M' n' => r = some (.int v) ∧ n = n' ∧ RF M' (x + 13) w sl la sp rm ln mA mB lt pr tl tk A B qu ∧ ∀ q, (q < x + 13 ∨ x + 13 + 6 < q) → M' q = M q)) : Op l D ty b0 x yc wsc frc loc mc ms ac yr wsr frr lor ar M n c := by
  refine ⟨⟨_, hS.1⟩, _, h1, fun r M' n' hr => ?_⟩
  obtain ⟨rfl, rfl, rfl⟩ := hr
  refine ⟨v, rfl, hR.cell, _, h2, fun r2 M'' n'' hr2 => ?_⟩
  obtain ⟨rfl, rfl, hR2, hf⟩ := hr2
  exact ⟨rfl, ⟨_, _, _, _, _, _, _, _, _, _, _, _, _, _, _, _, hS.frame (fun q hq => hf q (by omega)), hR2, hV.more, hn⟩⟩
/-- the reference's part, behind the class's -/
theorem op_2 {l : Launch} {D : va_G} {ty : jT} {b0 x : Nat} {M' : jM} {n' c : Nat} {w sl la sp rm ln mA mB lt pr tl tk : Int32} {A B : List Ev} {cs : List Nd} {qu : List Rec} {yr : MethodName} {wsr : List Cond} {frr lor : Nat} {ar : List Value} {v : Int32} (hn : x + 20 ≤ n') (hS : SQ M' x (x + 20) w sl la sp rm ln mA mB lt pr tl tk A B cs qu) (hV : NV w sl la sp rm ln mA mB A B cs qu (c + 1)) (hc : ∃ fs, M' (x + 13) = some (.inr (5, fs))) (h2 : Ct l D ty vwCl nwSQ b0 yr wsr frr lor 0 0 (.ref (x + 13) :: ar) M' n' (fun r M2 n2 => r = some (.int v) ∧ n' = n2 ∧ RF M2 (x + 13) w sl la sp rm ln mA mB lt pr tl tk A B qu ∧ ∀ q, (q < x + 13 ∨ x + 13 + 6 < q) → M2 q = M' q)) : ∃ R : Int32, some (Value.int v) = some (.int R) ∧ (∃ fs, M' (x + 13) = some (.inr (5, fs))) ∧ ∃ Rt2, Ct l D ty vwCl nwSQ b0 yr wsr frr lor 0 0 (.ref (x + 13) :: ar) M' n' Rt2 ∧ ∀ r2 M'' n'', Rt2 r2 M'' n'' → r2 = some (.int R) ∧ Inv x M'' n'' (c + 1) := by
  refine ⟨v, rfl, hc, _, h2, fun r2 M'' n'' hr2 => ?_⟩
  obtain ⟨rfl, rfl, hR2, hf⟩ := hr2
  exact ⟨rfl, ⟨_, _, _, _, _, _, _, _, _, _, _, _, _, _, _, _, hS.frame (fun q hq => hf q (by omega)), hR2, hV, hn⟩⟩
theorem SQ.late {M M' : jM} {x nb : Nat} {w sl la sp rm ln mA mB lt pr tl tk : Int32} {A B : List Ev} {cs : List Nd} {qu : List Rec} (h : SQ M x nb w sl la sp rm ln mA mB lt pr tl tk A B cs qu) (h1 : M' x = some (sqO x w sl la sp rm ln mA mB (lt + 1) pr tl tk)) (hf : ∀ q, q ≠ x → M' q = M q) : SQ M' x nb w sl la sp rm ln mA mB (lt + 1) pr tl tk A B cs qu := by
  obtain ⟨_, h2, h3, h4, h5, h6, h7, h8⟩ := h
  refine ⟨h1, h2.frame (fun q _ _ => hf q (by omega)), h3.frame (fun q _ _ => hf q (by omega)), h4.frame (fun q hq => ?_), h5.frame (fun q _ _ => hf q (by omega)), h6, h7, h8⟩
  rcases hq with rfl | rfl | ⟨z, hz, rfl⟩
  · exact hf _ (by omega)
  · exact hf _ (by omega)
  · have := h7 z hz
    exact hf _ (by omega)
theorem SQ.pop {M M' : jM} {x nb : Nat} {w sl la sp rm ln mA mB lt pr tl tk : Int32} {A B : List Ev} {cs : List Nd} {qu : List Rec} {rc : Rec} (h : SQ M x nb w sl la sp rm ln mA mB lt pr tl tk A B cs (rc :: qu)) (h1 : LnAt M' (x + 11) qu) (hf : ∀ q, (q < x + 11 ∨ x + 12 < q) → M' q = M q) : SQ M' x nb w sl la sp rm ln mA mB lt pr tl tk A B cs qu := by
  obtain ⟨h0, h2, h3, h4, h5, h6, h7, h8⟩ := h
  refine ⟨by rw [hf x (by omega)]; exact h0, h2.frame (fun q _ _ => hf q (by omega)), h3.frame (fun q _ _ => hf q (by omega)), h4.frame (fun q hq => ?_), h1, h6, h7, h8⟩
  rcases hq with rfl | rfl | ⟨z, hz, rfl⟩
  · exact hf _ (by omega)
  · exact hf _ (by omega)
  · have := h7 z hz
    exact hf _ (by omega)
/-- an index is one of the first k numbers, or outside -/
theorem ix_cases {k : Nat} (hk : k < 2 ^ 31) (i : Int32) : (∃ j, j < k ∧ i = nI j) ∨ (i < 0 ∨ nI k ≤ i) := by
  by_cases h0 : i < 0
  · exact Or.inr (Or.inl h0)
  · by_cases h1 : nI k ≤ i
    · exact Or.inr (Or.inr h1)
    · left
      have e0 : ¬ i.toInt < (0 : Int32).toInt := fun q => h0 (i_lt.mpr q)
      have e1 : ¬ (nI k).toInt ≤ i.toInt := fun q => h1 (i_le.mpr q)
      rw [Int32.toInt_zero] at e0
      rw [nI_toInt hk] at e1
      exact ⟨i.toInt.toNat, by omega, i_eq.mpr (by rw [nI_toInt (by omega)]; omega)⟩

theorem op_set (l : Launch) (D : va_G) {ty : jT} {cA : ClassId} (hI : ty[0]? = some (cA, .int)) (b0 : Nat) {x : Nat} {M : jM} {n c : Nat} (h : Inv x M n c) (a0 a1 a2 a3 a4 a5 : Int32) : Op l D ty b0 x yX4_set wsX4_set 2 43 0 0 [.int a0, .int a1, .int a2, .int a3, .int a4, .int a5] yX5_set wsX5_set 1 22 [.int a0, .int a1, .int a2, .int a3, .int a4, .int a5] M n c := by
  obtain ⟨w, sl, la, sp, rm, ln, mA, mB, lt, pr, tl, tk, A, B, cs, qu, hS, hR, hV, hn⟩ := h
  by_cases hok : okS a0 a1 a2 a3 a4 a5
  · refine ⟨⟨_, hS.1⟩, _, c_X4_setY l D hI b0 hS a0 a1 a2 a3 a4 a5 hok, fun r M' n' hr => ?_⟩
    obtain ⟨rfl, rfl, hS2, hf⟩ := hr
    have hR2 : RF M' (x + 13) w sl la sp rm ln mA mB lt pr tl tk A B qu := hR.frame (fun q h1 h2 => hf q (by omega))
    exact op_2 hn hS2 (NV.start (okS_I hok)) hR2.cell (c_X5_setY l D hI b0 hR2 a0 a1 a2 a3 a4 a5 hok)
  · exact op_rd l D hI b0 hS hR hV hn (c_X4_setN l D hI b0 hS a0 a1 a2 a3 a4 a5 hok) (c_X5_setN l D hI b0 hR a0 a1 a2 a3 a4 a5 hok)

theorem op_eventA (l : Launch) (D : va_G) {ty : jT} {cA : ClassId} (hI : ty[0]? = some (cA, .int)) (b0 : Nat) {x : Nat} {M : jM} {n c : Nat} (h : Inv x M n c) (t k v : Int32) : Op l D ty b0 x yX4_eventA wsX4_eventA 4 96 16 96 [.int t, .int k, .int v] yX5_eventA wsX5_eventA 3 83 [.int t, .int k, .int v] M n c := by
  obtain ⟨w, sl, la, sp, rm, ln, mA, mB, lt, pr, tl, tk, A, B, cs, qu, hS, hR, hV, hn⟩ := h
  have hTA := hV.2.2.2.1
  have hTB := hV.2.2.2.2.1
  by_cases hT : -1000000000 ≤ t ∧ t ≤ 1000000000
  · have ht := okT_int hT
    by_cases hL : mn mA mB - la ≤ t
    · have hL3 := hV.late.mp hL
      by_cases hr1 : nI (A.length + B.length) < rm
      · have hr2 := hV.room.1.mp hr1
        have hrm := hV.1.2.2.2.2.1
        have hln := hV.1.2.2.2.2.2
        have hne : ¬ nI (A.length + B.length) = rm := fun q => by rw [q] at hr1; exact absurd (i_lt.mp hr1) (by omega)
        have hcl : B.countP (nr t k sp) ≤ B.length := List.countP_le_length
        have hown : A.length < 200 := by omega
        by_cases hq1 : nI (qu.length + B.countP (nr t k sp)) ≤ ln
        · have hq2 := (hV.queue (by omega)).mp hq1
          have hq4 : qu.length + B.countP (nr t k sp) ≤ 400 := by omega
          refine ⟨⟨_, hS.1⟩, _, c_X4_evAP l D hI b0 hS t k v hT hL hr1 hq1 hq4 hown hn (by obtain ⟨hN, h16, _⟩ := hV.1; exact (ends_ok hN h16 ht hL3).1), fun r M' n' hr => ?_⟩
          obtain ⟨rfl, hnn, cs', hcs, hS2, hf⟩ := hr
          have hR2 : RF M' (x + 13) w sl la sp rm ln mA mB lt pr tl tk A B qu := hR.frame (fun q h1 h2 => hf q (by omega))
          exact op_2 (Nat.le_trans hn hnn) hS2 (hV.addA ht hL3 hr2 (by rw [List.length_map, cnt_le]; exact hq2) hcs) hR2.cell (c_X5_eAP l D hI b0 hR2 t k v hTA hTB hT hL3 hne hq1 hq4 hown)
        · exact op_rr l D hI b0 hS hR hV hn (c_X4_evAQ l D hI b0 hS t k v hT hL hr1 hq1) (c_X5_eAQ l D hI b0 hR t k v hTA hTB hT hL3 hne hq1 hown)
      · exact op_rd l D hI b0 hS hR hV hn (c_X4_evAF l D hI b0 hS t k v hT hL hr1) (c_X5_eAF l D hI b0 hR t k v hT hL3 (hV.room.2 hr1))
    · refine ⟨⟨_, hS.1⟩, _, c_X4_evAL l D hI b0 hS t k v hT hL, fun r M' n' hr => ?_⟩
      obtain ⟨rfl, rfl, hx2, hf⟩ := hr
      have hR2 : RF M' (x + 13) w sl la sp rm ln mA mB lt pr tl tk A B qu := hR.frame (fun q h1 h2 => hf q (by omega))
      exact op_2 hn (hS.late hx2 hf) hV.more hR2.cell (c_X5_eAL l D hI b0 hR2 t k v hT (fun q => hL (hV.late.mpr q)))
  · exact op_rd l D hI b0 hS hR hV hn (c_X4_evAB l D hI b0 hS t k v hT) (c_X5_eAB l D hI b0 hR t k v hT)

theorem op_eventB (l : Launch) (D : va_G) {ty : jT} {cA : ClassId} (hI : ty[0]? = some (cA, .int)) (b0 : Nat) {x : Nat} {M : jM} {n c : Nat} (h : Inv x M n c) (t k v : Int32) : Op l D ty b0 x yX4_eventB wsX4_eventB 4 94 0 0 [.int t, .int k, .int v] yX5_eventB wsX5_eventB 3 83 [.int t, .int k, .int v] M n c := by
  obtain ⟨w, sl, la, sp, rm, ln, mA, mB, lt, pr, tl, tk, A, B, cs, qu, hS, hR, hV, hn⟩ := h
  have hTA := hV.2.2.2.1
  have hTB := hV.2.2.2.2.1
  by_cases hT : -1000000000 ≤ t ∧ t ≤ 1000000000
  · have ht := okT_int hT
    by_cases hL : mn mA mB - la ≤ t
    · have hL3 := hV.late.mp hL
      by_cases hr1 : nI (A.length + B.length) < rm
      · have hr2 := hV.room.1.mp hr1
        have hrm := hV.1.2.2.2.2.1
        have hln := hV.1.2.2.2.2.2
        have hne : ¬ nI (A.length + B.length) = rm := fun q => by rw [q] at hr1; exact absurd (i_lt.mp hr1) (by omega)
        have hcl : A.countP (nr t k sp) ≤ A.length := List.countP_le_length
        have hown : B.length < 200 := by omega
        by_cases hq1 : nI (qu.length + A.countP (nr t k sp)) ≤ ln
        · have hq2 := (hV.queue (by omega)).mp hq1
          have hq4 : qu.length + A.countP (nr t k sp) ≤ 400 := by omega
          refine ⟨⟨_, hS.1⟩, _, c_X4_evBP l D hI b0 hS t k v hT hL hr1 hq1 hq4 hown , fun r M' n' hr => ?_⟩
          obtain ⟨rfl, rfl, hS2, hf⟩ := hr
          have hR2 : RF M' (x + 13) w sl la sp rm ln mA mB lt pr tl tk A B qu := hR.frame (fun q h1 h2 => hf q (by omega))
          exact op_2 hn hS2 (hV.addB ht hr2 (by rw [List.length_map, cnt_le]; exact hq2)) hR2.cell (c_X5_eBP l D hI b0 hR2 t k v hTA hTB hT hL3 hne hq1 hq4 hown)
        · exact op_rr l D hI b0 hS hR hV hn (c_X4_evBQ l D hI b0 hS t k v hT hL hr1 hq1) (c_X5_eBQ l D hI b0 hR t k v hTA hTB hT hL3 hne hq1 hown)
      · exact op_rd l D hI b0 hS hR hV hn (c_X4_evBF l D hI b0 hS t k v hT hL hr1) (c_X5_eBF l D hI b0 hR t k v hT hL3 (hV.room.2 hr1))
    · refine ⟨⟨_, hS.1⟩, _, c_X4_evBL l D hI b0 hS t k v hT hL, fun r M' n' hr => ?_⟩
      obtain ⟨rfl, rfl, hx2, hf⟩ := hr
      have hR2 : RF M' (x + 13) w sl la sp rm ln mA mB lt pr tl tk A B qu := hR.frame (fun q h1 h2 => hf q (by omega))
      exact op_2 hn (hS.late hx2 hf) hV.more hR2.cell (c_X5_eBL l D hI b0 hR2 t k v hT (fun q => hL (hV.late.mpr q)))
  · exact op_rd l D hI b0 hS hR hV hn (c_X4_evBB l D hI b0 hS t k v hT) (c_X5_eBB l D hI b0 hR t k v hT)

theorem op_markA (l : Launch) (D : va_G) {ty : jT} {cA : ClassId} (hI : ty[0]? = some (cA, .int)) (b0 : Nat) {x : Nat} {M : jM} {n c : Nat} (h : Inv x M n c) (hc : c ≤ 600) (t : Int32) : Op l D ty b0 x yX4_markA wsX4_markA 3 74 0 0 [.int t] yX5_markA wsX5_markA 4 107 [.int t] M n c := by
  obtain ⟨w, sl, la, sp, rm, ln, mA, mB, lt, pr, tl, tk, A, B, cs, qu, hS, hR, hV, hn⟩ := h
  have hTA := hV.2.2.2.1
  have hTB := hV.2.2.2.2.1
  by_cases hT : -1000000000 ≤ t ∧ t ≤ 1000000000
  · have ht := okT_int hT
    by_cases hs : t ≤ mA
    · have e1 : (if ¬ (-1000000000 ≤ t ∧ t ≤ 1000000000) then -2 else if t ≤ mA then -5 else 0 : Int32) = -5 := by rw [if_neg (fun q => q hT), if_pos hs]
      have h1 := c_X4_markAN l D hI b0 (n := n) hS t (by rw [e1]; decide)
      rw [e1] at h1
      exact op_rd l D hI b0 hS hR hV hn h1 (c_X5_mkAS l D hI b0 hR t hT hs)
    · have e1 : (if ¬ (-1000000000 ≤ t ∧ t ≤ 1000000000) then -2 else if t ≤ mA then -5 else 0 : Int32) = 0 := by rw [if_neg (fun q => q hT), if_neg hs]
      have hs2 : mA.toInt < t.toInt := Int.not_le.mp (fun q => hs (i_le.mpr q))
      have hmt : -2000000000 ≤ t.toInt ∧ t.toInt ≤ 1000000000 := by omega
      have m1 := mn_int (a := mA) (b := mB)
      have m2 := mn_int (a := t) (b := mB)
      have hmA := hV.2.1
      have hmB := hV.2.2.1
      have hkk : -2000000000 ≤ (mn t mB).toInt ∧ (mn t mB).toInt ≤ 1000000000 := by omega
      have hmono : (mn mA mB).toInt ≤ (mn t mB).toInt := by omega
      obtain ⟨s1, s2, s3⟩ := hV.split (k := mn t mB) hkk
      have hGL := hV.2.2.2.2.2.2.2.1
      rw [s1] at hGL
      have hok := hV.1
      have hcs := hV.2.2.2.2.2.2.2.2
      have hln := hok.2.2.2.2.2
      have hlT : (cs.takeWhile (fun x : Nd => decide (x.2.1 ≤ mn t mB - la))).length ≤ cs.length := takeWhile_len _ _
      have hLT : ((cs.takeWhile (fun x : Nd => decide (x.2.1 ≤ mn t mB - la))).map Prod.snd).length = (cs.takeWhile (fun x : Nd => decide (x.2.1 ≤ mn t mB - la))).length := List.length_map _
      by_cases hq1 : nI (qu.length + (cs.takeWhile (fun x : Nd => decide (x.2.1 ≤ mn t mB - la))).length) ≤ ln
      · have hq2 := (hV.queue (by omega)).mp hq1
        have hq4 : qu.length + (cs.takeWhile (fun x : Nd => decide (x.2.1 ≤ mn t mB - la))).length ≤ 400 := by omega
        have hwc : wcn (mn t mB - la) (-2147483648) cs = wc (-2147483648) ((cs.takeWhile (fun x : Nd => decide (x.2.1 ≤ mn t mB - la))).map Prod.snd) := wcn_wc
        have hwl : wcn (mn t mB - la) (-2147483648) cs < 1000000 := by
          rw [hwc]
          have h9 := wc_len (l := (cs.takeWhile (fun x : Nd => decide (x.2.1 ≤ mn t mB - la))).map Prod.snd) (p := -2147483648)
          rw [hLT] at h9
          omega
        refine ⟨⟨_, hS.1⟩, _, c_X4_markAT l D hI b0 hS t e1 hq1 hq4 hwl (i_le.mpr hok.1.2.1), fun r M' n' hr => ?_⟩
        obtain ⟨rfl, rfl, hS2, hf⟩ := hr
        have hR2 : RF M' (x + 13) w sl la sp rm ln mA mB lt pr tl tk A B qu := hR.frame (fun q h1 h2 => hf q (by omega))
        have eA : A.filter (fun e : Ev => decide (mn (mn t mB - la - sp) ((fd (mn t mB - la - w) sl + 1) * sl) ≤ e.1)) = A.filter (fun e : Ev => (kpA w.toInt sl.toInt la.toInt sp.toInt (mn t mB).toInt) e.1.toInt) := List.filter_congr (fun e _ => keepA_eq hok hkk)
        have eB : B.filter (fun e : Ev => decide (mn t mB - la - sp ≤ e.1)) = B.filter (fun e : Ev => (kpB la.toInt sp.toInt (mn t mB).toInt) e.1.toInt) := List.filter_congr (fun e _ => keepB_eq hok hkk)
        have eQ : (cs.take (cs.takeWhile (fun x : Nd => decide (x.2.1 ≤ mn t mB - la))).length).map (fun y : Nd => ((1, y.2) : Rec)) = ((cs.takeWhile (fun x : Nd => decide (x.2.1 ≤ mn t mB - la))).map Prod.snd).map (fun g : Grp => ((1, g) : Rec)) := by rw [tw_take, List.map_map]; rfl
        rw [eA, eB, eQ] at hS2
        rw [hwc]
        have h2 := c_X5_mkAT l D hI b0 (n := n) hR2 t hT hs hTA hTB hok.1 hok.2.1 hok.2.2.1 hGL s2 s3 (by rw [hLT]; exact hq1) (by rw [hLT]; exact hq4)
        rw [hLT] at h2
        exact op_2 hn hS2 (hV.mark (a := t) (b := mB) hmt hV.2.2.1 hmono hq2) hR2.cell h2
      · exact op_rr l D hI b0 hS hR hV hn (c_X4_markAF l D hI b0 hS t e1 hq1) (c_X5_mkAF l D hI b0 hR t hT hs hTA hTB hok.1 hok.2.1 hok.2.2.1 hGL s2 s3 (by rw [hLT]; exact hq1))
  · have e1 : (if ¬ (-1000000000 ≤ t ∧ t ≤ 1000000000) then -2 else if t ≤ mA then -5 else 0 : Int32) = -2 := by rw [if_pos hT]
    have h1 := c_X4_markAN l D hI b0 (n := n) hS t (by rw [e1]; decide)
    rw [e1] at h1
    exact op_rd l D hI b0 hS hR hV hn h1 (c_X5_mkAB l D hI b0 hR t hT)

theorem op_markB (l : Launch) (D : va_G) {ty : jT} {cA : ClassId} (hI : ty[0]? = some (cA, .int)) (b0 : Nat) {x : Nat} {M : jM} {n c : Nat} (h : Inv x M n c) (hc : c ≤ 600) (t : Int32) : Op l D ty b0 x yX4_markB wsX4_markB 3 74 0 0 [.int t] yX5_markB wsX5_markB 4 107 [.int t] M n c := by
  obtain ⟨w, sl, la, sp, rm, ln, mA, mB, lt, pr, tl, tk, A, B, cs, qu, hS, hR, hV, hn⟩ := h
  have hTA := hV.2.2.2.1
  have hTB := hV.2.2.2.2.1
  by_cases hT : -1000000000 ≤ t ∧ t ≤ 1000000000
  · have ht := okT_int hT
    by_cases hs : t ≤ mB
    · have e1 : (if ¬ (-1000000000 ≤ t ∧ t ≤ 1000000000) then -2 else if t ≤ mB then -5 else 0 : Int32) = -5 := by rw [if_neg (fun q => q hT), if_pos hs]
      have h1 := c_X4_markBN l D hI b0 (n := n) hS t (by rw [e1]; decide)
      rw [e1] at h1
      exact op_rd l D hI b0 hS hR hV hn h1 (c_X5_mkBS l D hI b0 hR t hT hs)
    · have e1 : (if ¬ (-1000000000 ≤ t ∧ t ≤ 1000000000) then -2 else if t ≤ mB then -5 else 0 : Int32) = 0 := by rw [if_neg (fun q => q hT), if_neg hs]
      have hs2 : mB.toInt < t.toInt := Int.not_le.mp (fun q => hs (i_le.mpr q))
      have hmt : -2000000000 ≤ t.toInt ∧ t.toInt ≤ 1000000000 := by omega
      have m1 := mn_int (a := mA) (b := mB)
      have m2 := mn_int (a := mA) (b := t)
      have hmA := hV.2.1
      have hmB := hV.2.2.1
      have hkk : -2000000000 ≤ (mn mA t).toInt ∧ (mn mA t).toInt ≤ 1000000000 := by omega
      have hmono : (mn mA mB).toInt ≤ (mn mA t).toInt := by omega
      obtain ⟨s1, s2, s3⟩ := hV.split (k := mn mA t) hkk
      have hGL := hV.2.2.2.2.2.2.2.1
      rw [s1] at hGL
      have hok := hV.1
      have hcs := hV.2.2.2.2.2.2.2.2
      have hln := hok.2.2.2.2.2
      have hlT : (cs.takeWhile (fun x : Nd => decide (x.2.1 ≤ mn mA t - la))).length ≤ cs.length := takeWhile_len _ _
      have hLT : ((cs.takeWhile (fun x : Nd => decide (x.2.1 ≤ mn mA t - la))).map Prod.snd).length = (cs.takeWhile (fun x : Nd => decide (x.2.1 ≤ mn mA t - la))).length := List.length_map _
      by_cases hq1 : nI (qu.length + (cs.takeWhile (fun x : Nd => decide (x.2.1 ≤ mn mA t - la))).length) ≤ ln
      · have hq2 := (hV.queue (by omega)).mp hq1
        have hq4 : qu.length + (cs.takeWhile (fun x : Nd => decide (x.2.1 ≤ mn mA t - la))).length ≤ 400 := by omega
        have hwc : wcn (mn mA t - la) (-2147483648) cs = wc (-2147483648) ((cs.takeWhile (fun x : Nd => decide (x.2.1 ≤ mn mA t - la))).map Prod.snd) := wcn_wc
        have hwl : wcn (mn mA t - la) (-2147483648) cs < 1000000 := by
          rw [hwc]
          have h9 := wc_len (l := (cs.takeWhile (fun x : Nd => decide (x.2.1 ≤ mn mA t - la))).map Prod.snd) (p := -2147483648)
          rw [hLT] at h9
          omega
        refine ⟨⟨_, hS.1⟩, _, c_X4_markBT l D hI b0 hS t e1 hq1 hq4 hwl (i_le.mpr hok.1.2.1), fun r M' n' hr => ?_⟩
        obtain ⟨rfl, rfl, hS2, hf⟩ := hr
        have hR2 : RF M' (x + 13) w sl la sp rm ln mA mB lt pr tl tk A B qu := hR.frame (fun q h1 h2 => hf q (by omega))
        have eA : A.filter (fun e : Ev => decide (mn (mn mA t - la - sp) ((fd (mn mA t - la - w) sl + 1) * sl) ≤ e.1)) = A.filter (fun e : Ev => (kpA w.toInt sl.toInt la.toInt sp.toInt (mn mA t).toInt) e.1.toInt) := List.filter_congr (fun e _ => keepA_eq hok hkk)
        have eB : B.filter (fun e : Ev => decide (mn mA t - la - sp ≤ e.1)) = B.filter (fun e : Ev => (kpB la.toInt sp.toInt (mn mA t).toInt) e.1.toInt) := List.filter_congr (fun e _ => keepB_eq hok hkk)
        have eQ : (cs.take (cs.takeWhile (fun x : Nd => decide (x.2.1 ≤ mn mA t - la))).length).map (fun y : Nd => ((1, y.2) : Rec)) = ((cs.takeWhile (fun x : Nd => decide (x.2.1 ≤ mn mA t - la))).map Prod.snd).map (fun g : Grp => ((1, g) : Rec)) := by rw [tw_take, List.map_map]; rfl
        rw [eA, eB, eQ] at hS2
        rw [hwc]
        have h2 := c_X5_mkBT l D hI b0 (n := n) hR2 t hT hs hTA hTB hok.1 hok.2.1 hok.2.2.1 hGL s2 s3 (by rw [hLT]; exact hq1) (by rw [hLT]; exact hq4)
        rw [hLT] at h2
        exact op_2 hn hS2 (hV.mark (a := mA) (b := t) hV.2.1 hmt hmono hq2) hR2.cell h2
      · exact op_rr l D hI b0 hS hR hV hn (c_X4_markBF l D hI b0 hS t e1 hq1) (c_X5_mkBF l D hI b0 hR t hT hs hTA hTB hok.1 hok.2.1 hok.2.2.1 hGL s2 s3 (by rw [hLT]; exact hq1))
  · have e1 : (if ¬ (-1000000000 ≤ t ∧ t ≤ 1000000000) then -2 else if t ≤ mB then -5 else 0 : Int32) = -2 := by rw [if_pos hT]
    have h1 := c_X4_markBN l D hI b0 (n := n) hS t (by rw [e1]; decide)
    rw [e1] at h1
    exact op_rd l D hI b0 hS hR hV hn h1 (c_X5_mkBB l D hI b0 hR t hT)

theorem op_mark (l : Launch) (D : va_G) {ty : jT} {cA : ClassId} (hI : ty[0]? = some (cA, .int)) (b0 : Nat) {x : Nat} {M : jM} {n c : Nat} (h : Inv x M n c)  : Op l D ty b0 x yX4_mark wsX4_mark 1 21 0 0 [] yX5_mark wsX5_mark 0 0 [] M n c := by
  obtain ⟨w, sl, la, sp, rm, ln, mA, mB, lt, pr, tl, tk, A, B, cs, qu, hS, hR, hV, hn⟩ := h
  exact op_rd l D hI b0 hS hR hV hn (c_X4_mark l D hI b0 hS.1) (c_X5_markR l D hI b0 hR)

theorem op_available (l : Launch) (D : va_G) {ty : jT} {cA : ClassId} (hI : ty[0]? = some (cA, .int)) (b0 : Nat) {x : Nat} {M : jM} {n c : Nat} (h : Inv x M n c)  : Op l D ty b0 x yX4_available wsX4_available 1 20 0 0 [] yX5_available wsX5_available 0 0 [] M n c := by
  obtain ⟨w, sl, la, sp, rm, ln, mA, mB, lt, pr, tl, tk, A, B, cs, qu, hS, hR, hV, hn⟩ := h
  obtain ⟨hx, hEA, hEB, hG, hQ, _⟩ := id hS
  exact op_rd l D hI b0 hS hR hV hn (c_X4_available l D hI b0 hx hQ) (c_X5_availableR l D hI b0 hR)

theorem op_kind (l : Launch) (D : va_G) {ty : jT} {cA : ClassId} (hI : ty[0]? = some (cA, .int)) (b0 : Nat) {x : Nat} {M : jM} {n c : Nat} (h : Inv x M n c) (i : Int32) : Op l D ty b0 x yX4_kind wsX4_kind 2 45 0 0 [.int i] yX5_kind wsX5_kind 1 22 [.int i] M n c := by
  obtain ⟨w, sl, la, sp, rm, ln, mA, mB, lt, pr, tl, tk, A, B, cs, qu, hS, hR, hV, hn⟩ := h
  have hlq : qu.length ≤ 400 := by obtain ⟨_, _, _, _, h9, _⟩ := id hS; exact h9.len
  have hla : A.length ≤ 200 := by obtain ⟨_, h9, _⟩ := id hS; exact h9.len
  have hlb : B.length ≤ 200 := by obtain ⟨_, _, h9, _⟩ := id hS; exact h9.len
  obtain ⟨hx, hEA, hEB, hG, hQ, _⟩ := id hS
  rcases ix_cases (k := qu.length) (by omega) i with ⟨j, hj, rfl⟩ | hi
  · obtain ⟨rc, hrc⟩ : ∃ rc, qu[j]? = some rc := ⟨qu[j], List.getElem?_eq_getElem hj⟩
    exact op_rd l D hI b0 hS hR hV hn (c_X4_kindT l D hI b0 hx hQ hj hrc) (c_X5_kindT l D hI b0 hR hj hrc)
  · exact op_rd l D hI b0 hS hR hV hn (c_X4_kindF l D hI b0 hx hQ hi) (c_X5_kindF l D hI b0 hR hi)

theorem op_field (l : Launch) (D : va_G) {ty : jT} {cA : ClassId} (hI : ty[0]? = some (cA, .int)) (b0 : Nat) {x : Nat} {M : jM} {n c : Nat} (h : Inv x M n c) (i k : Int32) : Op l D ty b0 x yX4_field wsX4_field 2 45 0 0 [.int i, .int k] yX5_field wsX5_field 1 22 [.int i, .int k] M n c := by
  obtain ⟨w, sl, la, sp, rm, ln, mA, mB, lt, pr, tl, tk, A, B, cs, qu, hS, hR, hV, hn⟩ := h
  have hlq : qu.length ≤ 400 := by obtain ⟨_, _, _, _, h9, _⟩ := id hS; exact h9.len
  have hla : A.length ≤ 200 := by obtain ⟨_, h9, _⟩ := id hS; exact h9.len
  have hlb : B.length ≤ 200 := by obtain ⟨_, _, h9, _⟩ := id hS; exact h9.len
  obtain ⟨hx, hEA, hEB, hG, hQ, _⟩ := id hS
  rcases ix_cases (k := qu.length) (by omega) i with ⟨j, hj, rfl⟩ | hi
  · obtain ⟨rc, hrc⟩ : ∃ rc, qu[j]? = some rc := ⟨qu[j], List.getElem?_eq_getElem hj⟩
    rcases ix_cases (k := 5) (by decide) k with ⟨z, hz, rfl⟩ | hk
    · exact op_rd l D hI b0 hS hR hV hn (c_X4_fieldT l D hI b0 hx hQ hj hz hrc) (c_X5_fieldT l D hI b0 hR hj hz hrc)
    · have hk2 : ¬ (0 ≤ k ∧ k ≤ 4) := by
        rintro ⟨q1, q2⟩
        have e1 := i_le.mp q1
        have e2 := i_le.mp q2
        have c4 : (4 : Int32).toInt = 4 := by decide
        have c5 : (nI 5).toInt = 5 := by decide
        rw [Int32.toInt_zero] at e1
        rcases hk with hk | hk
        · have := i_lt.mp hk
          rw [Int32.toInt_zero] at this
          omega
        · have := i_le.mp hk
          omega
      exact op_rd l D hI b0 hS hR hV hn (c_X4_fieldK l D hI b0 hx hQ (nI j) hk2) (c_X5_fieldK l D hI b0 hR (nI j) hk2)
  · exact op_rd l D hI b0 hS hR hV hn (c_X4_fieldF l D hI b0 hx hQ hi k) (c_X5_fieldF l D hI b0 hR hi k)

theorem op_pop (l : Launch) (D : va_G) {ty : jT} {cA : ClassId} (hI : ty[0]? = some (cA, .int)) (b0 : Nat) {x : Nat} {M : jM} {n c : Nat} (h : Inv x M n c)  : Op l D ty b0 x yX4_pop wsX4_pop 1 20 0 0 [] yX5_pop wsX5_pop 0 0 [] M n c := by
  obtain ⟨w, sl, la, sp, rm, ln, mA, mB, lt, pr, tl, tk, A, B, cs, qu, hS, hR, hV, hn⟩ := h
  cases qu with
  | nil =>
    obtain ⟨hx, hEA, hEB, hG, hQ, _⟩ := id hS
    exact op_rd l D hI b0 hS hR hV hn (c_X4_popE l D hI b0 hx hQ) (c_X5_popE l D hI b0 hR)
  | cons rc qu =>
    obtain ⟨hx, hEA, hEB, hG, hQ, _⟩ := id hS
    refine ⟨⟨_, hS.1⟩, _, c_X4_popC l D hI b0 hx hQ, fun r M' n' hr => ?_⟩
    obtain ⟨rfl, rfl, hq2, hf⟩ := hr
    have hR2 : RF M' (x + 13) w sl la sp rm ln mA mB lt pr tl tk A B (rc :: qu) := hR.frame (fun q h1 h2 => hf q (by omega))
    refine op_2 hn (hS.pop hq2 hf) ?_ hR2.cell (c_X5_popC l D hI b0 hR2)
    obtain ⟨h1, h2, h3, h4, h5, h6, h7, h8, h9⟩ := hV
    exact ⟨h1, h2, h3, h4, h5, h6, by have h7 : ((qu.length + 1 : Nat) : Int) ≤ ln.toInt := h7; omega, h8, by omega⟩

theorem op_look (l : Launch) (D : va_G) {ty : jT} {cA : ClassId} (hI : ty[0]? = some (cA, .int)) (b0 : Nat) {x : Nat} {M : jM} {n c : Nat} (h : Inv x M n c) (e1 k1 v : Int32) : Op l D ty b0 x yX4_look wsX4_look 3 68 0 0 [.int e1, .int k1, .int v] yX5_look wsX5_look 2 47 [.int e1, .int k1, .int v] M n c := by
  obtain ⟨w, sl, la, sp, rm, ln, mA, mB, lt, pr, tl, tk, A, B, cs, qu, hS, hR, hV, hn⟩ := h
  obtain ⟨hx, hEA, hEB, hG, hQ, _⟩ := id hS
  have hTA := hV.2.2.2.1
  have hok := hV.1
  have hGL := hV.2.2.2.2.2.2.2.1
  have hnov : ¬ e1.toInt + la.toInt ≤ (mn mA mB).toInt ↔ (mn mA mB).toInt - la.toInt < e1.toInt := by omega
  cases hf : fnd e1 k1 (lb e1 k1 (x + 9 + 1, g_hd) cs).2 with
  | none =>
    by_cases hc : isW w.toInt sl.toInt e1.toInt ∧ ¬ e1.toInt + la.toInt ≤ (mn mA mB).toInt ∧ (0 ≤ v ∧ v ≤ 2)
    · have hno : ∀ g ∈ cs.map Prod.snd, ¬ (g.1 = e1 ∧ g.2.1 = k1) := fun g hg => by
        obtain ⟨z, hz, rfl⟩ := List.mem_map.mp hg
        exact fnd_none hGL.1 hf z hz
      have h0 := GL_none hGL hno hc.1 (hnov.mp hc.2.1)
      have h2 := c_X5_lookS l D hI b0 (n := n) hR hTA hok.1 hok.2.1 hok.2.2.1 e1 k1 v hc
      rw [h0, show lkv v (0, 0, 0) = 0 from by unfold lkv; split <;> (try rfl); split <;> (try rfl); split <;> rfl] at h2
      exact op_rr l D hI b0 hS hR hV hn (c_X4_lookN l D hI b0 hx hG e1 k1 v hf) h2
    · exact op_rd l D hI b0 hS hR hV hn (c_X4_lookN l D hI b0 hx hG e1 k1 v hf) (c_X5_lookN l D hI b0 hR hTA hok.1 hok.2.1 hok.2.2.1 e1 k1 v hc)
  | some a =>
    obtain ⟨g, hg, hg1, hg2⟩ := fnd_some hf
    obtain ⟨nx, hnx⟩ := hG.2.mem (a, g) (List.mem_cons_of_mem _ hg)
    obtain ⟨w1, w2, _, w4⟩ := hGL.2.1 g (List.mem_map_of_mem (f := Prod.snd) hg)
    have h1 := c_X4_lookS l D hI b0 (n := n) hx hG e1 k1 v hf hnx
    rw [hg1] at w1 w2 w4
    rw [hg2] at w4
    by_cases hv : 0 ≤ v ∧ v ≤ 2
    · have h2 := c_X5_lookS l D hI b0 (n := n) hR hTA hok.1 hok.2.1 hok.2.2.1 e1 k1 v ⟨w1, hnov.mpr w2, hv⟩
      rw [← w4] at h2
      exact op_rr l D hI b0 hS hR hV hn h1 h2
    · have hz : (if v = 0 then g.2.2.1 else if v = 1 then g.2.2.2.1 else if v = 2 then g.2.2.2.2 else 0) = 0 := by
        rw [if_neg (fun q => hv (by rw [q]; decide)), if_neg (fun q => hv (by rw [q]; decide)), if_neg (fun q => hv (by rw [q]; decide))]
      rw [hz] at h1
      exact op_rd l D hI b0 hS hR hV hn h1 (c_X5_lookN l D hI b0 hR hTA hok.1 hok.2.1 hok.2.2.1 e1 k1 v (fun q => hv q.2.2))

theorem op_event (l : Launch) (D : va_G) {ty : jT} {cA : ClassId} (hI : ty[0]? = some (cA, .int)) (b0 : Nat) {x : Nat} {M : jM} {n c : Nat} (h : Inv x M n c) (z i v : Int32) : Op l D ty b0 x yX4_event wsX4_event 2 42 0 0 [.int z, .int i, .int v] yX5_event_ wsX5_event_ 1 22 [.int z, .int i, .int v] M n c := by
  obtain ⟨w, sl, la, sp, rm, ln, mA, mB, lt, pr, tl, tk, A, B, cs, qu, hS, hR, hV, hn⟩ := h
  have hlq : qu.length ≤ 400 := by obtain ⟨_, _, _, _, h9, _⟩ := id hS; exact h9.len
  have hla : A.length ≤ 200 := by obtain ⟨_, h9, _⟩ := id hS; exact h9.len
  have hlb : B.length ≤ 200 := by obtain ⟨_, _, h9, _⟩ := id hS; exact h9.len
  obtain ⟨hx, hEA, hEB, hG, hQ, _⟩ := id hS
  rcases ix_cases (k := 2) (by decide) z with ⟨j, hj, rfl⟩ | hz
  · rcases (show j = 0 ∨ j = 1 by omega) with rfl | rfl
    · rcases ix_cases (k := A.length) (by omega) i with ⟨y, hy, rfl⟩ | hi
      · obtain ⟨ev, hev⟩ : ∃ ev, A[y]? = some ev := ⟨A[y], List.getElem?_eq_getElem hy⟩
        exact op_rd l D hI b0 hS hR hV hn (c_X4_eventAT l D hI b0 hx hEA hy hev v) (c_X5_eventAT l D hI b0 hR hy hev v)
      · exact op_rd l D hI b0 hS hR hV hn (c_X4_eventAF l D hI b0 hx hEA hi v) (c_X5_eventAF l D hI b0 hR hi v)
    · rcases ix_cases (k := B.length) (by omega) i with ⟨y, hy, rfl⟩ | hi
      · obtain ⟨ev, hev⟩ : ∃ ev, B[y]? = some ev := ⟨B[y], List.getElem?_eq_getElem hy⟩
        exact op_rd l D hI b0 hS hR hV hn (c_X4_eventBT l D hI b0 hx hEB hy hev v) (c_X5_eventBT l D hI b0 hR hy hev v)
      · exact op_rd l D hI b0 hS hR hV hn (c_X4_eventBF l D hI b0 hx hEB hi v) (c_X5_eventBF l D hI b0 hR hi v)
  · have hk2 : ¬ (0 ≤ z ∧ z ≤ 1) := by
      rintro ⟨q1, q2⟩
      have e1 := i_le.mp q1
      have e2 := i_le.mp q2
      have c4 : (1 : Int32).toInt = 1 := by decide
      have c5 : (nI 2).toInt = 2 := by decide
      rw [Int32.toInt_zero] at e1
      rcases hz with hz | hz
      · have := i_lt.mp hz
        rw [Int32.toInt_zero] at this
        omega
      · have := i_le.mp hz
        omega
    exact op_rd l D hI b0 hS hR hV hn (c_X4_eventN l D hI b0 hx hk2 i v) (c_X5_eventN l D hI b0 hR hk2 i v)

theorem op_count (l : Launch) (D : va_G) {ty : jT} {cA : ClassId} (hI : ty[0]? = some (cA, .int)) (b0 : Nat) {x : Nat} {M : jM} {n c : Nat} (h : Inv x M n c) (v : Int32) : Op l D ty b0 x yX4_count wsX4_count 1 24 0 0 [.int v] yX5_count wsX5_count 3 75 [.int v] M n c := by
  obtain ⟨w, sl, la, sp, rm, ln, mA, mB, lt, pr, tl, tk, A, B, cs, qu, hS, hR, hV, hn⟩ := h
  have hTA := hV.2.2.2.1
  have hok := hV.1
  have hGL := hV.2.2.2.2.2.2.2.1
  have h1 := c_X4_count l D hI b0 (n := n) hS v
  rw [wcn_wc, tw_max] at h1
  exact op_rd l D hI b0 hS hR hV hn h1 (c_X5_count l D hI b0 hR hTA hok.1 hok.2.1 hok.2.2.1 hGL v)

