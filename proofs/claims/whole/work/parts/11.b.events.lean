set_option maxHeartbeats 800000 in
set_option maxRecDepth 100000 in
theorem c_X0_size (l : Launch) (D : va_G) {ty : jT} {cA : ClassId} (hI : ty[0]? = some (cA, .int)) (b0 : Nat) {M : jM} {n o : Nat} {le : List Ev} (h : EvAt M o le) : Ct l D ty vwCl nwSQ b0 yX0_size wsX0_size 0 0 0 0 [.ref o] M n (j_rd (.int (nI le.length)) M n) := by
  obtain ⟨ft, fk, fv, h0, h1, h2, h3, hlen, hl⟩ := h
  refine j_start (cc := cX0_size) (maxL := 1) (ret := (some .int)) (by decide) rfl [some (.ref o)] (Nat.le_of_ble_eq_true rfl) rfl ?_
  intro p e s m below meth c X hlk hr hnm
  refine j_aload_n X 0 dX0_size_0 rfl rfl ?_
  refine j_get X h0 rfl iwX0_size_X0 3 (by decide) lkX0_size_21 rfl dX0_size_1 ?_
  exact j_iret X hlk hr (by omega) (by omega) dX0_size_4 ⟨rfl, rfl, rfl⟩
set_option maxHeartbeats 800000 in
set_option maxRecDepth 100000 in
theorem c_X0_hasT (l : Launch) (D : va_G) {ty : jT} {cA : ClassId} (hI : ty[0]? = some (cA, .int)) (b0 : Nat) {M : jM} {n o : Nat} {le : List Ev} (h : EvAt M o le) {j : Nat} (hj : j < le.length) : Ct l D ty vwCl nwSQ b0 yX0_has wsX0_has 0 0 0 0 [.ref o, .int (nI j)] M n (j_rd (.int 1) M n) := by
  obtain ⟨ft, fk, fv, h0, h1, h2, h3, hlen, hl⟩ := h
  refine j_start (cc := cX0_has) (maxL := 2) (ret := (some .boolean)) (by decide) rfl [some (.ref o), some (.int (nI j))] (Nat.le_of_ble_eq_true rfl) rfl ?_
  intro p e s m below meth c X hlk hr hnm
  refine j_iconst X dX0_has_0 (v := 0) (by decide) ?_
  refine j_iload_n X 1 dX0_has_1 rfl rfl ?_
  refine j_icmp_gt X 17 dX0_has_2 (by decide) (fun c1 => ?_) (fun c1 => ?_)
  · skip
    exact absurd c1 (by simp (disch := omega) only [Int32.lt_iff_toInt_lt, Int32.le_iff_toInt_le, nI_toInt, Int32.toInt_zero]; omega)
  · skip
    refine j_iload_n X 1 dX0_has_5 rfl rfl ?_
    refine j_aload_n X 0 dX0_has_6 rfl rfl ?_
    refine j_get X h0 rfl iwX0_has_X0 3 (by decide) lkX0_has_21 rfl dX0_has_7 ?_
    refine j_icmp_ge X 17 dX0_has_10 (by decide) (fun c2 => ?_) (fun c2 => ?_)
    · skip
      exact absurd c2 (by simp (disch := omega) only [Int32.lt_iff_toInt_lt, Int32.le_iff_toInt_le, nI_toInt, Int32.toInt_zero]; omega)
    · skip
      refine j_iconst X dX0_has_13 (v := 1) (by decide) ?_
      refine j_goto X 18 dX0_has_14 (by decide) ?_
      exact j_zret X hlk hr (by omega) (by omega) (by decide) dX0_has_18 ⟨rfl, rfl, rfl⟩
set_option maxHeartbeats 800000 in
set_option maxRecDepth 100000 in
theorem c_X0_hasF (l : Launch) (D : va_G) {ty : jT} {cA : ClassId} (hI : ty[0]? = some (cA, .int)) (b0 : Nat) {M : jM} {n o : Nat} {le : List Ev} (h : EvAt M o le) {i : Int32} (hi : i < 0 ∨ nI le.length ≤ i) : Ct l D ty vwCl nwSQ b0 yX0_has wsX0_has 0 0 0 0 [.ref o, .int i] M n (j_rd (.int 0) M n) := by
  obtain ⟨ft, fk, fv, h0, h1, h2, h3, hlen, hl⟩ := h
  refine j_start (cc := cX0_has) (maxL := 2) (ret := (some .boolean)) (by decide) rfl [some (.ref o), some (.int i)] (Nat.le_of_ble_eq_true rfl) rfl ?_
  intro p e s m below meth c X hlk hr hnm
  refine j_iconst X dX0_has_0 (v := 0) (by decide) ?_
  refine j_iload_n X 1 dX0_has_1 rfl rfl ?_
  refine j_icmp_gt X 17 dX0_has_2 (by decide) (fun c3 => ?_) (fun c3 => ?_)
  · skip
    refine j_iconst X dX0_has_17 (v := 0) (by decide) ?_
    exact j_zret X hlk hr (by omega) (by omega) (by decide) dX0_has_18 ⟨rfl, rfl, rfl⟩
  · skip
    refine j_iload_n X 1 dX0_has_5 rfl rfl ?_
    refine j_aload_n X 0 dX0_has_6 rfl rfl ?_
    refine j_get X h0 rfl iwX0_has_X0 3 (by decide) lkX0_has_21 rfl dX0_has_7 ?_
    refine j_icmp_ge X 17 dX0_has_10 (by decide) (fun c4 => ?_) (fun c4 => ?_)
    · skip
      refine j_iconst X dX0_has_17 (v := 0) (by decide) ?_
      exact j_zret X hlk hr (by omega) (by omega) (by decide) dX0_has_18 ⟨rfl, rfl, rfl⟩
    · skip
      exact absurd (hi.resolve_left c3) c4
set_option maxHeartbeats 800000 in
set_option maxRecDepth 100000 in
theorem c_X0_timeT (l : Launch) (D : va_G) {ty : jT} {cA : ClassId} (hI : ty[0]? = some (cA, .int)) (b0 : Nat) {M : jM} {n o : Nat} {le : List Ev} (h : EvAt M o le) {j : Nat} {ev : Ev} (hj : j < le.length) (hev : le[j]? = some ev) : Ct l D ty vwCl nwSQ b0 yX0_time wsX0_time 1 21 0 0 [.ref o, .int (nI j)] M n (j_rd (.int ev.1) M n) := by
  obtain ⟨ft, fk, fv, h0, h1, h2, h3, hlen, hl⟩ := id h
  have hq := hl j hj
  rw [hev] at hq
  cases hq
  refine j_start (cc := cX0_time) (maxL := 2) (ret := (some .int)) (by decide) rfl [some (.ref o), some (.int (nI j))] (Nat.le_of_ble_eq_true rfl) rfl ?_
  intro p e s m below meth c X hlk hr hnm
  refine j_aload_n X 0 dX0_time_0 rfl rfl ?_
  refine j_iload_n X 1 dX0_time_1 rfl rfl ?_
  refine j_callV X nwSQ_ok (As := [.int (nI j)]) (rest := []) h0 rfl rfl (c_X0_hasT l D hI b0 h hj) rfl gX0_time_X0_has ⟨rfl, ddX0_has⟩ ⟨Nat.le_of_ble_eq_true rfl, Nat.le_of_ble_eq_true rfl⟩ (Nat.le_of_ble_eq_true rfl) rfl dX0_time_2 ⟨(by show 0 + 0 ≤ 0; omega), (by show 0 + 0 ≤ 0; omega)⟩ (fun r5 M6 n7 hr8 => ?_)
  obtain ⟨rfl, rfl, rfl⟩ := hr8
  refine j_st (st := [.int 1]) rfl ?_
  refine j_if_eq X 17 dX0_time_5 (by decide) (fun c9 => ?_) (fun c9 => ?_)
  · skip
    exact absurd c9 (by decide)
  · skip
    refine j_aload_n X 0 dX0_time_8 rfl rfl ?_
    refine j_get X h0 rfl iwX0_time_X0 0 (by decide) lkX0_time_9 rfl dX0_time_9 ?_
    refine j_iload_n X 1 dX0_time_12 rfl rfl ?_
    refine j_iald X h1 hI (vp_in_nI (show j < 200 by omega) (by decide)) (v := ft j) (congrArg ft (nI_clamp (show j < 2 ^ 31 by omega))) dX0_time_13 ?_
    refine j_goto X 18 dX0_time_14 (by decide) ?_
    exact j_iret X hlk hr (by omega) (by omega) dX0_time_18 ⟨rfl, rfl, rfl⟩
set_option maxHeartbeats 800000 in
set_option maxRecDepth 100000 in
theorem c_X0_timeF (l : Launch) (D : va_G) {ty : jT} {cA : ClassId} (hI : ty[0]? = some (cA, .int)) (b0 : Nat) {M : jM} {n o : Nat} {le : List Ev} (h : EvAt M o le) {i : Int32} (hi : i < 0 ∨ nI le.length ≤ i) : Ct l D ty vwCl nwSQ b0 yX0_time wsX0_time 1 21 0 0 [.ref o, .int i] M n (j_rd (.int 0) M n) := by
  obtain ⟨ft, fk, fv, h0, h1, h2, h3, hlen, hl⟩ := id h
  refine j_start (cc := cX0_time) (maxL := 2) (ret := (some .int)) (by decide) rfl [some (.ref o), some (.int i)] (Nat.le_of_ble_eq_true rfl) rfl ?_
  intro p e s m below meth c X hlk hr hnm
  refine j_aload_n X 0 dX0_time_0 rfl rfl ?_
  refine j_iload_n X 1 dX0_time_1 rfl rfl ?_
  refine j_callV X nwSQ_ok (As := [.int i]) (rest := []) h0 rfl rfl (c_X0_hasF l D hI b0 h hi) rfl gX0_time_X0_has ⟨rfl, ddX0_has⟩ ⟨Nat.le_of_ble_eq_true rfl, Nat.le_of_ble_eq_true rfl⟩ (Nat.le_of_ble_eq_true rfl) rfl dX0_time_2 ⟨(by show 0 + 0 ≤ 0; omega), (by show 0 + 0 ≤ 0; omega)⟩ (fun r10 M11 n12 hr13 => ?_)
  obtain ⟨rfl, rfl, rfl⟩ := hr13
  refine j_st (st := [.int 0]) rfl ?_
  refine j_if_eq X 17 dX0_time_5 (by decide) (fun c14 => ?_) (fun c14 => ?_)
  · skip
    refine j_iconst X dX0_time_17 (v := 0) (by decide) ?_
    exact j_iret X hlk hr (by omega) (by omega) dX0_time_18 ⟨rfl, rfl, rfl⟩
  · skip
    exact absurd rfl c14
set_option maxHeartbeats 800000 in
set_option maxRecDepth 100000 in
theorem c_X0_keyT (l : Launch) (D : va_G) {ty : jT} {cA : ClassId} (hI : ty[0]? = some (cA, .int)) (b0 : Nat) {M : jM} {n o : Nat} {le : List Ev} (h : EvAt M o le) {j : Nat} {ev : Ev} (hj : j < le.length) (hev : le[j]? = some ev) : Ct l D ty vwCl nwSQ b0 yX0_key wsX0_key 1 21 0 0 [.ref o, .int (nI j)] M n (j_rd (.int ev.2.1) M n) := by
  obtain ⟨ft, fk, fv, h0, h1, h2, h3, hlen, hl⟩ := id h
  have hq := hl j hj
  rw [hev] at hq
  cases hq
  refine j_start (cc := cX0_key) (maxL := 2) (ret := (some .int)) (by decide) rfl [some (.ref o), some (.int (nI j))] (Nat.le_of_ble_eq_true rfl) rfl ?_
  intro p e s m below meth c X hlk hr hnm
  refine j_aload_n X 0 dX0_key_0 rfl rfl ?_
  refine j_iload_n X 1 dX0_key_1 rfl rfl ?_
  refine j_callV X nwSQ_ok (As := [.int (nI j)]) (rest := []) h0 rfl rfl (c_X0_hasT l D hI b0 h hj) rfl gX0_key_X0_has ⟨rfl, ddX0_has⟩ ⟨Nat.le_of_ble_eq_true rfl, Nat.le_of_ble_eq_true rfl⟩ (Nat.le_of_ble_eq_true rfl) rfl dX0_key_2 ⟨(by show 0 + 0 ≤ 0; omega), (by show 0 + 0 ≤ 0; omega)⟩ (fun r15 M16 n17 hr18 => ?_)
  obtain ⟨rfl, rfl, rfl⟩ := hr18
  refine j_st (st := [.int 1]) rfl ?_
  refine j_if_eq X 17 dX0_key_5 (by decide) (fun c19 => ?_) (fun c19 => ?_)
  · skip
    exact absurd c19 (by decide)
  · skip
    refine j_aload_n X 0 dX0_key_8 rfl rfl ?_
    refine j_get X h0 rfl iwX0_key_X0 1 (by decide) lkX0_key_15 rfl dX0_key_9 ?_
    refine j_iload_n X 1 dX0_key_12 rfl rfl ?_
    refine j_iald X h2 hI (vp_in_nI (show j < 200 by omega) (by decide)) (v := fk j) (congrArg fk (nI_clamp (show j < 2 ^ 31 by omega))) dX0_key_13 ?_
    refine j_goto X 18 dX0_key_14 (by decide) ?_
    exact j_iret X hlk hr (by omega) (by omega) dX0_key_18 ⟨rfl, rfl, rfl⟩
set_option maxHeartbeats 800000 in
set_option maxRecDepth 100000 in
theorem c_X0_keyF (l : Launch) (D : va_G) {ty : jT} {cA : ClassId} (hI : ty[0]? = some (cA, .int)) (b0 : Nat) {M : jM} {n o : Nat} {le : List Ev} (h : EvAt M o le) {i : Int32} (hi : i < 0 ∨ nI le.length ≤ i) : Ct l D ty vwCl nwSQ b0 yX0_key wsX0_key 1 21 0 0 [.ref o, .int i] M n (j_rd (.int 0) M n) := by
  obtain ⟨ft, fk, fv, h0, h1, h2, h3, hlen, hl⟩ := id h
  refine j_start (cc := cX0_key) (maxL := 2) (ret := (some .int)) (by decide) rfl [some (.ref o), some (.int i)] (Nat.le_of_ble_eq_true rfl) rfl ?_
  intro p e s m below meth c X hlk hr hnm
  refine j_aload_n X 0 dX0_key_0 rfl rfl ?_
  refine j_iload_n X 1 dX0_key_1 rfl rfl ?_
  refine j_callV X nwSQ_ok (As := [.int i]) (rest := []) h0 rfl rfl (c_X0_hasF l D hI b0 h hi) rfl gX0_key_X0_has ⟨rfl, ddX0_has⟩ ⟨Nat.le_of_ble_eq_true rfl, Nat.le_of_ble_eq_true rfl⟩ (Nat.le_of_ble_eq_true rfl) rfl dX0_key_2 ⟨(by show 0 + 0 ≤ 0; omega), (by show 0 + 0 ≤ 0; omega)⟩ (fun r20 M21 n22 hr23 => ?_)
  obtain ⟨rfl, rfl, rfl⟩ := hr23
  refine j_st (st := [.int 0]) rfl ?_
  refine j_if_eq X 17 dX0_key_5 (by decide) (fun c24 => ?_) (fun c24 => ?_)
  · skip
    refine j_iconst X dX0_key_17 (v := 0) (by decide) ?_
    exact j_iret X hlk hr (by omega) (by omega) dX0_key_18 ⟨rfl, rfl, rfl⟩
  · skip
    exact absurd rfl c24
set_option maxHeartbeats 800000 in
set_option maxRecDepth 100000 in
theorem c_X0_valueT (l : Launch) (D : va_G) {ty : jT} {cA : ClassId} (hI : ty[0]? = some (cA, .int)) (b0 : Nat) {M : jM} {n o : Nat} {le : List Ev} (h : EvAt M o le) {j : Nat} {ev : Ev} (hj : j < le.length) (hev : le[j]? = some ev) : Ct l D ty vwCl nwSQ b0 yX0_value wsX0_value 1 21 0 0 [.ref o, .int (nI j)] M n (j_rd (.int ev.2.2) M n) := by
  obtain ⟨ft, fk, fv, h0, h1, h2, h3, hlen, hl⟩ := id h
  have hq := hl j hj
  rw [hev] at hq
  cases hq
  refine j_start (cc := cX0_value) (maxL := 2) (ret := (some .int)) (by decide) rfl [some (.ref o), some (.int (nI j))] (Nat.le_of_ble_eq_true rfl) rfl ?_
  intro p e s m below meth c X hlk hr hnm
  refine j_aload_n X 0 dX0_value_0 rfl rfl ?_
  refine j_iload_n X 1 dX0_value_1 rfl rfl ?_
  refine j_callV X nwSQ_ok (As := [.int (nI j)]) (rest := []) h0 rfl rfl (c_X0_hasT l D hI b0 h hj) rfl gX0_value_X0_has ⟨rfl, ddX0_has⟩ ⟨Nat.le_of_ble_eq_true rfl, Nat.le_of_ble_eq_true rfl⟩ (Nat.le_of_ble_eq_true rfl) rfl dX0_value_2 ⟨(by show 0 + 0 ≤ 0; omega), (by show 0 + 0 ≤ 0; omega)⟩ (fun r25 M26 n27 hr28 => ?_)
  obtain ⟨rfl, rfl, rfl⟩ := hr28
  refine j_st (st := [.int 1]) rfl ?_
  refine j_if_eq X 17 dX0_value_5 (by decide) (fun c29 => ?_) (fun c29 => ?_)
  · skip
    exact absurd c29 (by decide)
  · skip
    refine j_aload_n X 0 dX0_value_8 rfl rfl ?_
    refine j_get X h0 rfl iwX0_value_X0 2 (by decide) lkX0_value_18 rfl dX0_value_9 ?_
    refine j_iload_n X 1 dX0_value_12 rfl rfl ?_
    refine j_iald X h3 hI (vp_in_nI (show j < 200 by omega) (by decide)) (v := fv j) (congrArg fv (nI_clamp (show j < 2 ^ 31 by omega))) dX0_value_13 ?_
    refine j_goto X 18 dX0_value_14 (by decide) ?_
    exact j_iret X hlk hr (by omega) (by omega) dX0_value_18 ⟨rfl, rfl, rfl⟩
set_option maxHeartbeats 800000 in
set_option maxRecDepth 100000 in
theorem c_X0_valueF (l : Launch) (D : va_G) {ty : jT} {cA : ClassId} (hI : ty[0]? = some (cA, .int)) (b0 : Nat) {M : jM} {n o : Nat} {le : List Ev} (h : EvAt M o le) {i : Int32} (hi : i < 0 ∨ nI le.length ≤ i) : Ct l D ty vwCl nwSQ b0 yX0_value wsX0_value 1 21 0 0 [.ref o, .int i] M n (j_rd (.int 0) M n) := by
  obtain ⟨ft, fk, fv, h0, h1, h2, h3, hlen, hl⟩ := id h
  refine j_start (cc := cX0_value) (maxL := 2) (ret := (some .int)) (by decide) rfl [some (.ref o), some (.int i)] (Nat.le_of_ble_eq_true rfl) rfl ?_
  intro p e s m below meth c X hlk hr hnm
  refine j_aload_n X 0 dX0_value_0 rfl rfl ?_
  refine j_iload_n X 1 dX0_value_1 rfl rfl ?_
  refine j_callV X nwSQ_ok (As := [.int i]) (rest := []) h0 rfl rfl (c_X0_hasF l D hI b0 h hi) rfl gX0_value_X0_has ⟨rfl, ddX0_has⟩ ⟨Nat.le_of_ble_eq_true rfl, Nat.le_of_ble_eq_true rfl⟩ (Nat.le_of_ble_eq_true rfl) rfl dX0_value_2 ⟨(by show 0 + 0 ≤ 0; omega), (by show 0 + 0 ≤ 0; omega)⟩ (fun r30 M31 n32 hr33 => ?_)
  obtain ⟨rfl, rfl, rfl⟩ := hr33
  refine j_st (st := [.int 0]) rfl ?_
  refine j_if_eq X 17 dX0_value_5 (by decide) (fun c34 => ?_) (fun c34 => ?_)
  · skip
    refine j_iconst X dX0_value_17 (v := 0) (by decide) ?_
    exact j_iret X hlk hr (by omega) (by omega) dX0_value_18 ⟨rfl, rfl, rfl⟩
  · skip
    exact absurd rfl c34
set_option maxHeartbeats 800000 in
set_option maxRecDepth 100000 in
theorem c_X0_clear (l : Launch) (D : va_G) {ty : jT} {cA : ClassId} (hI : ty[0]? = some (cA, .int)) (b0 : Nat) {M : jM} {n o : Nat} {le : List Ev} (h : EvAt M o le) : Ct l D ty vwCl nwSQ b0 yX0_clear wsX0_clear 0 0 0 0 [.ref o] M n (fun r M' n' => r = none ∧ n = n' ∧ EvAt M' o [] ∧ ∀ q, (q < o ∨ o + 3 < q) → M' q = M q) := by
  obtain ⟨ft, fk, fv, h0, h1, h2, h3, hlen, hl⟩ := h
  refine j_start (cc := cX0_clear) (maxL := 1) (ret := none) (by decide) rfl [some (.ref o)] (Nat.le_of_ble_eq_true rfl) rfl ?_
  intro p e s m below meth c X hlk hr hnm
  refine j_aload_n X 0 dX0_clear_0 rfl rfl ?_
  refine j_iconst X dX0_clear_1 (v := 0) (by decide) ?_
  refine j_put X h0 rfl iwX0_clear_X0 tyX0 tyX0_ok nmX0 3 (by decide) lkX0_clear_21 rfl rfl rfl (Nat.le_of_ble_eq_true rfl) (fs' := [.ref (o + 1), .ref (o + 2), .ref (o + 3), .int 0]) rfl dX0_clear_2 ?_
  generalize eM35 : j_up M o (.inr (0, [.ref (o + 1), .ref (o + 2), .ref (o + 3), .int 0])) = M35
  have h37 : M35 (o + 1) = some (.inl (0, 200, .inl ft)) := by rw [← eM35, j_up_ne _ _ (by omega)]; exact h1
  have h38 : M35 (o + 2) = some (.inl (0, 200, .inl fk)) := by rw [← eM35, j_up_ne _ _ (by omega)]; exact h2
  have h39 : M35 (o + 3) = some (.inl (0, 200, .inl fv)) := by rw [← eM35, j_up_ne _ _ (by omega)]; exact h3
  have h40 : M35 o = some (.inr (0, [.ref (o + 1), .ref (o + 2), .ref (o + 3), .int 0])) := by rw [← eM35]; exact j_up_self _ _ _
  exact j_vret X hlk hr (by omega) (by omega) dX0_clear_5 ⟨rfl, rfl, ⟨ft, fk, fv, h40, h37, h38, h39, Nat.zero_le _, fun i hi => absurd hi (Nat.not_lt_zero i)⟩, fun q hq => by rw [← eM35, j_up_ne _ _ (by omega)]⟩
set_option maxHeartbeats 800000 in
set_option maxRecDepth 100000 in
theorem c_X0_add (l : Launch) (D : va_G) {ty : jT} {cA : ClassId} (hI : ty[0]? = some (cA, .int)) (b0 : Nat) {M : jM} {n o k : Nat} {ft fk fv : Nat → Int32} (h : EvRaw M o ft fk fv k) (hlt : k < 200) (a b v : Int32) : Ct l D ty vwCl nwSQ b0 yX0_add wsX0_add 0 0 0 0 [.ref o, .int a, .int b, .int v] M n (fun r M' n' => r = none ∧ n = n' ∧ EvRaw M' o (upd ft k a) (upd fk k b) (upd fv k v) (k + 1) ∧ ∀ q, (q < o ∨ o + 3 < q) → M' q = M q) := by
  obtain ⟨h0, h1, h2, h3⟩ := h
  refine j_start (cc := cX0_add) (maxL := 4) (ret := none) (by decide) rfl [some (.ref o), some (.int a), some (.int b), some (.int v)] (Nat.le_of_ble_eq_true rfl) rfl ?_
  intro p e s m below meth c X hlk hr hnm
  refine j_aload_n X 0 dX0_add_0 rfl rfl ?_
  refine j_get X h0 rfl iwX0_add_X0 3 (by decide) lkX0_add_21 rfl dX0_add_1 ?_
  refine j_sipush X dX0_add_4 (v := 200) (by decide) ?_
  refine j_icmp_lt X 11 dX0_add_7 (by decide) (fun c41 => ?_) (fun c41 => ?_)
  · skip
    refine j_aload_n X 0 dX0_add_11 rfl rfl ?_
    refine j_get X h0 rfl iwX0_add_X0 0 (by decide) lkX0_add_9 rfl dX0_add_12 ?_
    refine j_aload_n X 0 dX0_add_15 rfl rfl ?_
    refine j_get X h0 rfl iwX0_add_X0 3 (by decide) lkX0_add_21 rfl dX0_add_16 ?_
    refine j_iload_n X 1 dX0_add_19 rfl rfl ?_
    refine j_iast X h1 hI (vp_in_nI (show k < 200 by omega) (by decide)) dX0_add_20 ?_
    rw [nI_clamp (show k < 2 ^ 31 by omega)]
    generalize eM42 : j_up M (o + 1) (.inl (0, 200, .inl (upd ft k a))) = M42
    have h43 : M42 o = some (.inr (0, [.ref (o + 1), .ref (o + 2), .ref (o + 3), .int (nI k)])) := by rw [← eM42, j_up_ne _ _ (by omega)]; exact h0
    have h45 : M42 (o + 2) = some (.inl (0, 200, .inl fk)) := by rw [← eM42, j_up_ne _ _ (by omega)]; exact h2
    have h46 : M42 (o + 3) = some (.inl (0, 200, .inl fv)) := by rw [← eM42, j_up_ne _ _ (by omega)]; exact h3
    have h47 : M42 (o + 1) = some (.inl (0, 200, .inl (upd ft k a))) := by rw [← eM42]; exact j_up_self _ _ _
    refine j_aload_n X 0 dX0_add_21 rfl rfl ?_
    refine j_get X h43 rfl iwX0_add_X0 1 (by decide) lkX0_add_15 rfl dX0_add_22 ?_
    refine j_aload_n X 0 dX0_add_25 rfl rfl ?_
    refine j_get X h43 rfl iwX0_add_X0 3 (by decide) lkX0_add_21 rfl dX0_add_26 ?_
    refine j_iload_n X 2 dX0_add_29 rfl rfl ?_
    refine j_iast X h45 hI (vp_in_nI (show k < 200 by omega) (by decide)) dX0_add_30 ?_
    rw [nI_clamp (show k < 2 ^ 31 by omega)]
    generalize eM48 : j_up M42 (o + 2) (.inl (0, 200, .inl (upd fk k b))) = M48
    have h49 : M48 o = some (.inr (0, [.ref (o + 1), .ref (o + 2), .ref (o + 3), .int (nI k)])) := by rw [← eM48, j_up_ne _ _ (by omega)]; exact h43
    have h51 : M48 (o + 3) = some (.inl (0, 200, .inl fv)) := by rw [← eM48, j_up_ne _ _ (by omega)]; exact h46
    have h52 : M48 (o + 1) = some (.inl (0, 200, .inl (upd ft k a))) := by rw [← eM48, j_up_ne _ _ (by omega)]; exact h47
    have h53 : M48 (o + 2) = some (.inl (0, 200, .inl (upd fk k b))) := by rw [← eM48]; exact j_up_self _ _ _
    refine j_aload_n X 0 dX0_add_31 rfl rfl ?_
    refine j_get X h49 rfl iwX0_add_X0 2 (by decide) lkX0_add_18 rfl dX0_add_32 ?_
    refine j_aload_n X 0 dX0_add_35 rfl rfl ?_
    refine j_get X h49 rfl iwX0_add_X0 3 (by decide) lkX0_add_21 rfl dX0_add_36 ?_
    refine j_iload_n X 3 dX0_add_39 rfl rfl ?_
    refine j_iast X h51 hI (vp_in_nI (show k < 200 by omega) (by decide)) dX0_add_40 ?_
    rw [nI_clamp (show k < 2 ^ 31 by omega)]
    generalize eM54 : j_up M48 (o + 3) (.inl (0, 200, .inl (upd fv k v))) = M54
    have h55 : M54 o = some (.inr (0, [.ref (o + 1), .ref (o + 2), .ref (o + 3), .int (nI k)])) := by rw [← eM54, j_up_ne _ _ (by omega)]; exact h49
    have h57 : M54 (o + 1) = some (.inl (0, 200, .inl (upd ft k a))) := by rw [← eM54, j_up_ne _ _ (by omega)]; exact h52
    have h58 : M54 (o + 2) = some (.inl (0, 200, .inl (upd fk k b))) := by rw [← eM54, j_up_ne _ _ (by omega)]; exact h53
    have h59 : M54 (o + 3) = some (.inl (0, 200, .inl (upd fv k v))) := by rw [← eM54]; exact j_up_self _ _ _
    refine j_aload_n X 0 dX0_add_41 rfl rfl ?_
    refine j_dup X dX0_add_42 rfl ?_
    refine j_get X h55 rfl iwX0_add_X0 3 (by decide) lkX0_add_21 rfl dX0_add_43 ?_
    refine j_iconst X dX0_add_46 (v := 1) (by decide) ?_
    refine j_iadd X dX0_add_47 ?_
    refine j_st (st := [.int (nI (k + 1)), .ref o]) (by rw [show (nI k) + 1 = nI (k + 1) from nI_add _ 1]) ?_
    refine j_put X h55 rfl iwX0_add_X0 tyX0 tyX0_ok nmX0 3 (by decide) lkX0_add_21 rfl rfl rfl (Nat.le_of_ble_eq_true rfl) (fs' := [.ref (o + 1), .ref (o + 2), .ref (o + 3), .int (nI (k + 1))]) rfl dX0_add_48 ?_
    generalize eM60 : j_up M54 o (.inr (0, [.ref (o + 1), .ref (o + 2), .ref (o + 3), .int (nI (k + 1))])) = M60
    have h62 : M60 (o + 1) = some (.inl (0, 200, .inl (upd ft k a))) := by rw [← eM60, j_up_ne _ _ (by omega)]; exact h57
    have h63 : M60 (o + 2) = some (.inl (0, 200, .inl (upd fk k b))) := by rw [← eM60, j_up_ne _ _ (by omega)]; exact h58
    have h64 : M60 (o + 3) = some (.inl (0, 200, .inl (upd fv k v))) := by rw [← eM60, j_up_ne _ _ (by omega)]; exact h59
    have h65 : M60 o = some (.inr (0, [.ref (o + 1), .ref (o + 2), .ref (o + 3), .int (nI (k + 1))])) := by rw [← eM60]; exact j_up_self _ _ _
    exact j_vret X hlk hr (by omega) (by omega) dX0_add_51 ⟨rfl, rfl, ⟨h65, h62, h63, h64⟩, fun q hq => by rw [← eM60, j_up_ne _ _ (by omega), ← eM54, j_up_ne _ _ (by omega), ← eM48, j_up_ne _ _ (by omega), ← eM42, j_up_ne _ _ (by omega)]⟩
  · skip
    exact absurd (show nI k < 200 from nI_lt (b := 200) hlt (by decide)) c41
set_option maxHeartbeats 800000 in
set_option maxRecDepth 100000 in
theorem c_X0_isNear (l : Launch) (D : va_G) {ty : jT} {cA : ClassId} (hI : ty[0]? = some (cA, .int)) (b0 : Nat) {M : jM} {n o : Nat} {le : List Ev} (h : EvAt M o le) {j : Nat} {ev : Ev} (hj : j < le.length) (hev : le[j]? = some ev) (t k sp : Int32) : Ct l D ty vwCl nwSQ b0 yX0_isNear wsX0_isNear 1 21 0 0 [.ref o, .int (nI j), .int t, .int k, .int sp] M n (j_rd (.int (if nr t k sp ev then 1 else 0)) M n) := by
  obtain ⟨ft, fk, fv, h0, h1, h2, h3, hlen, hl⟩ := id h
  have hq := hl j hj
  rw [hev] at hq
  cases hq
  refine j_start (cc := cX0_isNear) (maxL := 5) (ret := (some .boolean)) (by decide) rfl [some (.ref o), some (.int (nI j)), some (.int t), some (.int k), some (.int sp)] (Nat.le_of_ble_eq_true rfl) rfl ?_
  intro p e s m below meth c X hlk hr hnm
  refine j_aload_n X 0 dX0_isNear_0 rfl rfl ?_
  refine j_iload_n X 1 dX0_isNear_1 rfl rfl ?_
  refine j_callV X nwSQ_ok (As := [.int (nI j)]) (rest := []) h0 rfl rfl (c_X0_hasT l D hI b0 h hj) rfl gX0_isNear_X0_has ⟨rfl, ddX0_has⟩ ⟨Nat.le_of_ble_eq_true rfl, Nat.le_of_ble_eq_true rfl⟩ (Nat.le_of_ble_eq_true rfl) rfl dX0_isNear_2 ⟨(by show 0 + 0 ≤ 0; omega), (by show 0 + 0 ≤ 0; omega)⟩ (fun r66 M67 n68 hr69 => ?_)
  obtain ⟨rfl, rfl, rfl⟩ := hr69
  refine j_st (st := [.int 1]) rfl ?_
  refine j_if_eq X 38 dX0_isNear_5 (by decide) (fun c70 => ?_) (fun c70 => ?_)
  · skip
    exact absurd c70 (by decide)
  · skip
    refine j_aload_n X 0 dX0_isNear_8 rfl rfl ?_
    refine j_get X h0 rfl iwX0_isNear_X0 1 (by decide) lkX0_isNear_15 rfl dX0_isNear_9 ?_
    refine j_iload_n X 1 dX0_isNear_12 rfl rfl ?_
    refine j_iald X h2 hI (vp_in_nI (show j < 200 by omega) (by decide)) (v := fk j) (congrArg fk (nI_clamp (show j < 2 ^ 31 by omega))) dX0_isNear_13 ?_
    refine j_iload_n X 3 dX0_isNear_14 rfl rfl ?_
    refine j_icmp_ne X 38 dX0_isNear_15 (by decide) (fun c71 => ?_) (fun c71 => ?_)
    · skip
      refine j_iconst X dX0_isNear_38 (v := 0) (by decide) ?_
      exact j_zret X hlk hr (by omega) (by omega) (by decide) dX0_isNear_39 ⟨congrArg (fun x => some (Value.int x)) (nr_F1 (e := (ft j, fk j, fv j)) c71).symm, rfl, rfl⟩
    · skip
      refine j_aload_n X 0 dX0_isNear_18 rfl rfl ?_
      refine j_get X h0 rfl iwX0_isNear_X0 0 (by decide) lkX0_isNear_9 rfl dX0_isNear_19 ?_
      refine j_iload_n X 1 dX0_isNear_22 rfl rfl ?_
      refine j_iald X h1 hI (vp_in_nI (show j < 200 by omega) (by decide)) (v := ft j) (congrArg ft (nI_clamp (show j < 2 ^ 31 by omega))) dX0_isNear_23 ?_
      refine j_iload_n X 2 dX0_isNear_24 rfl rfl ?_
      refine j_isub X dX0_isNear_25 ?_
      refine j_abs X wdX0_isNear_mabs0 wdX0_isNear_mabs1 wdX0_isNear_mabs2 wdX0_isNear_mabs3 (Nat.le_of_ble_eq_true rfl) (Nat.le_of_ble_eq_true rfl) (by omega) (by omega) dX0_isNear_26 ?_
      refine j_iload X dX0_isNear_29 rfl ?_
      refine j_icmp_gt X 38 dX0_isNear_31 (by decide) (fun c72 => ?_) (fun c72 => ?_)
      · skip
        refine j_iconst X dX0_isNear_38 (v := 0) (by decide) ?_
        exact j_zret X hlk hr (by omega) (by omega) (by decide) dX0_isNear_39 ⟨congrArg (fun x => some (Value.int x)) (nr_F2 (e := (ft j, fk j, fv j)) c72).symm, rfl, rfl⟩
      · skip
        refine j_iconst X dX0_isNear_34 (v := 1) (by decide) ?_
        refine j_goto X 39 dX0_isNear_35 (by decide) ?_
        exact j_zret X hlk hr (by omega) (by omega) (by decide) dX0_isNear_39 ⟨congrArg (fun x => some (Value.int x)) (nr_T (e := (ft j, fk j, fv j)) c71 c72).symm, rfl, rfl⟩
set_option maxHeartbeats 800000 in
set_option maxRecDepth 100000 in
theorem c_X0_manyNear (l : Launch) (D : va_G) {ty : jT} {cA : ClassId} (hI : ty[0]? = some (cA, .int)) (b0 : Nat) {M : jM} {n o : Nat} {le : List Ev} (h : EvAt M o le) (t k sp : Int32) : Ct l D ty vwCl nwSQ b0 yX0_manyNear wsX0_manyNear 2 45 0 0 [.ref o, .int t, .int k, .int sp] M n (j_rd (.int (nI (le.countP (nr t k sp)))) M n) := by
  obtain ⟨ft, fk, fv, h0, h1, h2, h3, hlen, hl⟩ := id h
  refine j_start (cc := cX0_manyNear) (maxL := 6) (ret := (some .int)) (by decide) rfl [some (.ref o), some (.int t), some (.int k), some (.int sp), none, none] (Nat.le_of_ble_eq_true rfl) rfl ?_
  intro p e s m below meth c X hlk hr hnm
  have loop : ∀ (z i : Nat), i + z = le.length → J p l e { frames := 2, cells := 0, slots := 0, locals := 45 } s m ([.ref o, .int t, .int k, .int sp] : List Value).toArray below meth c D ty vwCl b0 (MQ below (j_Q D ty vwCl b0 (j_rd (.int (nI (le.countP (nr t k sp)))) M n)) ([.ref o, .int t, .int k, .int sp] : List Value).toArray s 0 0 (fun q => b0 ≤ q)) 6 M n 0 0 6 [some (.ref o), some (.int t), some (.int k), some (.int sp), some (.int (nI ((le.take i).countP (nr t k sp)))), some (.int (nI i))] [] := by
    intro z
    induction z with
    | zero =>
      intro i hz
      refine j_iload X dX0_manyNear_6 rfl ?_
      refine j_aload_n X 0 dX0_manyNear_8 rfl rfl ?_
      refine j_get X h0 rfl iwX0_manyNear_X0 3 (by decide) lkX0_manyNear_21 rfl dX0_manyNear_9 ?_
      refine j_icmp_ge X 36 dX0_manyNear_12 (by decide) (fun c73 => ?_) (fun c73 => ?_)
      · skip
        refine j_iload X dX0_manyNear_36 rfl ?_
        exact j_iret X hlk hr (by omega) (by omega) dX0_manyNear_38 ⟨by rw [show i = le.length by omega, List.take_length], rfl, rfl⟩
      · skip
        exact absurd (nI_le (show le.length ≤ i by omega) (by omega)) c73
    | succ z ih =>
      intro i hz
      obtain ⟨ev, hev⟩ : ∃ ev, le[i]? = some ev := ⟨_, List.getElem?_eq_getElem (show i < le.length by omega)⟩
      have hcn := take_count (p := nr t k sp) hev
      refine j_iload X dX0_manyNear_6 rfl ?_
      refine j_aload_n X 0 dX0_manyNear_8 rfl rfl ?_
      refine j_get X h0 rfl iwX0_manyNear_X0 3 (by decide) lkX0_manyNear_21 rfl dX0_manyNear_9 ?_
      refine j_icmp_ge X 36 dX0_manyNear_12 (by decide) (fun c74 => ?_) (fun c74 => ?_)
      · skip
        exact absurd c74 (nI_ge (show i < le.length by omega) (by omega))
      · skip
        refine j_aload_n X 0 dX0_manyNear_15 rfl rfl ?_
        refine j_iload X dX0_manyNear_16 rfl ?_
        refine j_iload_n X 1 dX0_manyNear_18 rfl rfl ?_
        refine j_iload_n X 2 dX0_manyNear_19 rfl rfl ?_
        refine j_iload_n X 3 dX0_manyNear_20 rfl rfl ?_
        refine j_callV X nwSQ_ok (As := [.int (nI i), .int t, .int k, .int sp]) (rest := []) h0 rfl rfl (c_X0_isNear l D hI b0 h (show i < le.length by omega) hev t k sp) rfl gX0_manyNear_X0_isNear ⟨rfl, ddX0_isNear⟩ ⟨Nat.le_of_ble_eq_true rfl, Nat.le_of_ble_eq_true rfl⟩ (Nat.le_of_ble_eq_true rfl) rfl dX0_manyNear_21 ⟨(by show 0 + 0 ≤ 0; omega), (by show 0 + 0 ≤ 0; omega)⟩ (fun r75 M76 n77 hr78 => ?_)
        obtain ⟨rfl, rfl, rfl⟩ := hr78
        refine j_st (st := [.int (if nr t k sp ev then 1 else 0)]) rfl ?_
        refine j_if_eq X 30 dX0_manyNear_24 (by decide) (fun c79 => ?_) (fun c79 => ?_)
        · skip
          refine j_iinc X dX0_manyNear_30 rfl (v := nI (i + 1)) (nI_1 _) (by decide) rfl (L' := [some (.ref o), some (.int t), some (.int k), some (.int sp), some (.int (nI ((le.take i).countP (nr t k sp)))), some (.int (nI (i + 1)))]) rfl ?_
          refine j_goto X 6 dX0_manyNear_33 (by decide) ?_
          have hi := ih (i + 1) (by omega)
          cases hb : nr t k sp ev <;> rw [hcn, hb] at hi <;> rw [hb] at c79 <;> first | exact hi | exact absurd rfl c79 | exact absurd c79 (by decide)
        · skip
          refine j_iinc X dX0_manyNear_27 rfl (v := nI ((le.take i).countP (nr t k sp) + 1)) (nI_1 _) (by decide) rfl (L' := [some (.ref o), some (.int t), some (.int k), some (.int sp), some (.int (nI ((le.take i).countP (nr t k sp) + 1))), some (.int (nI i))]) rfl ?_
          refine j_iinc X dX0_manyNear_30 rfl (v := nI (i + 1)) (nI_1 _) (by decide) rfl (L' := [some (.ref o), some (.int t), some (.int k), some (.int sp), some (.int (nI ((le.take i).countP (nr t k sp) + 1))), some (.int (nI (i + 1)))]) rfl ?_
          refine j_goto X 6 dX0_manyNear_33 (by decide) ?_
          have hi := ih (i + 1) (by omega)
          cases hb : nr t k sp ev <;> rw [hcn, hb] at hi <;> rw [hb] at c79 <;> first | exact hi | exact absurd rfl c79 | exact absurd c79 (by decide)
  refine j_iconst X dX0_manyNear_0 (v := 0) (by decide) ?_
  refine j_istore X dX0_manyNear_1 (by decide) rfl (L' := [some (.ref o), some (.int t), some (.int k), some (.int sp), some (.int 0), none]) rfl ?_
  refine j_iconst X dX0_manyNear_3 (v := 0) (by decide) ?_
  refine j_istore X dX0_manyNear_4 (by decide) rfl (L' := [some (.ref o), some (.int t), some (.int k), some (.int sp), some (.int 0), some (.int 0)]) rfl ?_
  exact loop le.length 0 (by omega)
set_option maxHeartbeats 800000 in
set_option maxRecDepth 100000 in
theorem c_X0_dropBelow (l : Launch) (D : va_G) {ty : jT} {cA : ClassId} (hI : ty[0]? = some (cA, .int)) (b0 : Nat) {M : jM} {n o : Nat} {le : List Ev} (h : EvAt M o le) (x : Int32) : Ct l D ty vwCl nwSQ b0 yX0_dropBelow wsX0_dropBelow 1 23 0 0 [.ref o, .int x] M n (fun r M' n' => r = none ∧ n = n' ∧ EvAt M' o (le.filter (fun e : Ev => decide (x ≤ e.1))) ∧ ∀ q, (q < o ∨ o + 3 < q) → M' q = M q) := by
  obtain ⟨ft, fk, fv, h0, h1, h2, h3, hlen, hl⟩ := id h
  refine j_start (cc := cX0_dropBelow) (maxL := 4) (ret := none) (by decide) rfl [some (.ref o), some (.int x), none, none] (Nat.le_of_ble_eq_true rfl) rfl ?_
  intro p e s m below meth c X hlk hr hnm
  have loop : ∀ (z i : Nat) (Mi : jM) (gt gk gv : Nat → Int32), i + z = le.length → EvRaw Mi o gt gk gv ((le.take i).filter (fun e : Ev => decide (x ≤ e.1))).length → (∀ j, j < ((le.take i).filter (fun e : Ev => decide (x ≤ e.1))).length → ((le.take i).filter (fun e : Ev => decide (x ≤ e.1)))[j]? = some (gt j, gk j, gv j)) → (∀ j, i ≤ j → gt j = ft j ∧ gk j = fk j ∧ gv j = fv j) → (∀ q, (q < o ∨ o + 3 < q) → Mi q = M q) → J p l e { frames := 1, cells := 0, slots := 0, locals := 23 } s m ([.ref o, .int x] : List Value).toArray below meth c D ty vwCl b0 (MQ below (j_Q D ty vwCl b0 (fun r M' n' => r = none ∧ n = n' ∧ EvAt M' o (le.filter (fun e : Ev => decide (x ≤ e.1))) ∧ ∀ q, (q < o ∨ o + 3 < q) → M' q = M q)) ([.ref o, .int x] : List Value).toArray s 0 0 (fun q => b0 ≤ q)) 4 Mi n 0 0 12 [some (.ref o), some (.int x), some (.int (nI le.length)), some (.int (nI i))] [] := by
    intro z
    induction z with
    | zero =>
      intro i Mi gt gk gv hz hraw hpt hre hfr
      refine j_iload_n X 3 dX0_dropBelow_12 rfl rfl ?_
      refine j_iload_n X 2 dX0_dropBelow_13 rfl rfl ?_
      refine j_icmp_ge X 55 dX0_dropBelow_14 (by decide) (fun c80 => ?_) (fun c80 => ?_)
      · skip
        exact j_vret X hlk hr (by omega) (by omega) dX0_dropBelow_55 ⟨rfl, rfl, by rw [← List.take_length (l := le), ← show i = le.length by omega]; exact ⟨gt, gk, gv, hraw.1, hraw.2.1, hraw.2.2.1, hraw.2.2.2, Nat.le_trans (List.length_filter_le _ _) (by rw [List.length_take]; omega), hpt⟩, hfr⟩
      · skip
        exact absurd (nI_le (show le.length ≤ i by omega) (by omega)) c80
    | succ z ih =>
      intro i Mi gt gk gv hz hraw hpt hre hfr
      have hi := hl i (show i < le.length by omega)
      have hft := filter_take (p := (fun e : Ev => decide (x ≤ e.1))) hi
      have hkl : ((le.take i).filter (fun e : Ev => decide (x ≤ e.1))).length ≤ i := Nat.le_trans (List.length_filter_le _ _) (by rw [List.length_take]; omega)
      generalize hK : ((le.take i).filter (fun e : Ev => decide (x ≤ e.1))) = lk at hraw hpt hft hkl
      generalize hk : lk.length = k at hraw hpt hkl
      obtain ⟨e1, e2, e3⟩ := hre i (Nat.le_refl i)
      obtain ⟨h0, h1, h2, h3⟩ := id hraw
      refine j_iload_n X 3 dX0_dropBelow_12 rfl rfl ?_
      refine j_iload_n X 2 dX0_dropBelow_13 rfl rfl ?_
      refine j_icmp_ge X 55 dX0_dropBelow_14 (by decide) (fun c81 => ?_) (fun c81 => ?_)
      · skip
        exact absurd c81 (nI_ge (show i < le.length by omega) (by omega))
      · skip
        refine j_aload_n X 0 dX0_dropBelow_17 rfl rfl ?_
        refine j_get X h0 rfl iwX0_dropBelow_X0 0 (by decide) lkX0_dropBelow_9 rfl dX0_dropBelow_18 ?_
        refine j_iload_n X 3 dX0_dropBelow_21 rfl rfl ?_
        refine j_iald X h1 hI (vp_in_nI (show i < 200 by omega) (by decide)) (v := gt i) (congrArg gt (nI_clamp (show i < 2 ^ 31 by omega))) dX0_dropBelow_22 ?_
        refine j_iload_n X 1 dX0_dropBelow_23 rfl rfl ?_
        refine j_icmp_lt X 49 dX0_dropBelow_24 (by decide) (fun c82 => ?_) (fun c82 => ?_)
        · skip
          refine j_iinc X dX0_dropBelow_49 rfl (v := nI (i + 1)) (nI_1 _) (by decide) rfl (L' := [some (.ref o), some (.int x), some (.int (nI le.length)), some (.int (nI (i + 1)))]) rfl ?_
          refine j_goto X 12 dX0_dropBelow_52 (by decide) ?_
          rw [if_neg (by simp only [decide_eq_true_eq]; rw [← e1]; exact Int32.not_le.mpr c82), List.append_nil] at hft
          exact ih (i + 1) Mi gt gk gv (by omega) (by rw [hft, hk]; exact hraw) (by rw [hft, hk]; exact hpt) (fun j hj => hre j (by omega)) hfr
        · skip
          refine j_aload_n X 0 dX0_dropBelow_27 rfl rfl ?_
          refine j_aload_n X 0 dX0_dropBelow_28 rfl rfl ?_
          refine j_get X h0 rfl iwX0_dropBelow_X0 0 (by decide) lkX0_dropBelow_9 rfl dX0_dropBelow_29 ?_
          refine j_iload_n X 3 dX0_dropBelow_32 rfl rfl ?_
          refine j_iald X h1 hI (vp_in_nI (show i < 200 by omega) (by decide)) (v := gt i) (congrArg gt (nI_clamp (show i < 2 ^ 31 by omega))) dX0_dropBelow_33 ?_
          refine j_aload_n X 0 dX0_dropBelow_34 rfl rfl ?_
          refine j_get X h0 rfl iwX0_dropBelow_X0 1 (by decide) lkX0_dropBelow_15 rfl dX0_dropBelow_35 ?_
          refine j_iload_n X 3 dX0_dropBelow_38 rfl rfl ?_
          refine j_iald X h2 hI (vp_in_nI (show i < 200 by omega) (by decide)) (v := gk i) (congrArg gk (nI_clamp (show i < 2 ^ 31 by omega))) dX0_dropBelow_39 ?_
          refine j_aload_n X 0 dX0_dropBelow_40 rfl rfl ?_
          refine j_get X h0 rfl iwX0_dropBelow_X0 2 (by decide) lkX0_dropBelow_18 rfl dX0_dropBelow_41 ?_
          refine j_iload_n X 3 dX0_dropBelow_44 rfl rfl ?_
          refine j_iald X h3 hI (vp_in_nI (show i < 200 by omega) (by decide)) (v := gv i) (congrArg gv (nI_clamp (show i < 2 ^ 31 by omega))) dX0_dropBelow_45 ?_
          refine j_callV X nwSQ_ok (As := [.int (gt i), .int (gk i), .int (gv i)]) (rest := []) h0 rfl rfl (c_X0_add l D hI b0 hraw (show k < 200 by omega) (gt i) (gk i) (gv i)) rfl gX0_dropBelow_X0_add ⟨rfl, ddX0_add⟩ ⟨Nat.le_of_ble_eq_true rfl, Nat.le_of_ble_eq_true rfl⟩ (Nat.le_of_ble_eq_true rfl) rfl dX0_dropBelow_46 ⟨(by show 0 + 0 ≤ 0; omega), (by show 0 + 0 ≤ 0; omega)⟩ (fun r83 M84 n85 hr86 => ?_)
          obtain ⟨rfl, rfl, hra2, hfr2⟩ := hr86
          refine j_st (st := []) rfl ?_
          refine j_iinc X dX0_dropBelow_49 rfl (v := nI (i + 1)) (nI_1 _) (by decide) rfl (L' := [some (.ref o), some (.int x), some (.int (nI le.length)), some (.int (nI (i + 1)))]) rfl ?_
          refine j_goto X 12 dX0_dropBelow_52 (by decide) ?_
          rw [if_pos (by simp only [decide_eq_true_eq]; rw [← e1]; exact Int32.not_lt.mp c82)] at hft
          have hl2 : ((le.take (i + 1)).filter (fun e : Ev => decide (x ≤ e.1))).length = k + 1 := by rw [hft, List.length_append, hk]; rfl
          exact ih (i + 1) M84 (upd gt k (gt i)) (upd gk k (gk i)) (upd gv k (gv i)) (by omega) (by rw [hl2]; exact hra2) (by rw [hft, ← e1, ← e2, ← e3]; subst hk; exact ev_push hpt) (fun j hj => by obtain ⟨g1, g2, g3⟩ := hre j (by omega); have hne : j ≠ k := (by omega); simp only [upd, if_neg hne]; exact ⟨g1, g2, g3⟩) (fun q hq => (hfr2 q hq).trans (hfr q hq))
  refine j_aload_n X 0 dX0_dropBelow_0 rfl rfl ?_
  refine j_get X h0 rfl iwX0_dropBelow_X0 3 (by decide) lkX0_dropBelow_21 rfl dX0_dropBelow_1 ?_
  refine j_istore_n X 2 dX0_dropBelow_4 rfl (by decide) rfl (L' := [some (.ref o), some (.int x), some (.int (nI le.length)), none]) rfl ?_
  refine j_aload_n X 0 dX0_dropBelow_5 rfl rfl ?_
  refine j_iconst X dX0_dropBelow_6 (v := 0) (by decide) ?_
  refine j_put X h0 rfl iwX0_dropBelow_X0 tyX0 tyX0_ok nmX0 3 (by decide) lkX0_dropBelow_21 rfl rfl rfl (Nat.le_of_ble_eq_true rfl) (fs' := [.ref (o + 1), .ref (o + 2), .ref (o + 3), .int 0]) rfl dX0_dropBelow_7 ?_
  generalize eM87 : j_up M o (.inr (0, [.ref (o + 1), .ref (o + 2), .ref (o + 3), .int 0])) = M87
  have h89 : M87 (o + 1) = some (.inl (0, 200, .inl ft)) := by rw [← eM87, j_up_ne _ _ (by omega)]; exact h1
  have h90 : M87 (o + 2) = some (.inl (0, 200, .inl fk)) := by rw [← eM87, j_up_ne _ _ (by omega)]; exact h2
  have h91 : M87 (o + 3) = some (.inl (0, 200, .inl fv)) := by rw [← eM87, j_up_ne _ _ (by omega)]; exact h3
  have h92 : M87 o = some (.inr (0, [.ref (o + 1), .ref (o + 2), .ref (o + 3), .int 0])) := by rw [← eM87]; exact j_up_self _ _ _
  refine j_iconst X dX0_dropBelow_10 (v := 0) (by decide) ?_
  refine j_istore_n X 3 dX0_dropBelow_11 rfl (by decide) rfl (L' := [some (.ref o), some (.int x), some (.int (nI le.length)), some (.int 0)]) rfl ?_
  exact loop le.length 0 M87 ft fk fv (by omega) ⟨h92, h89, h90, h91⟩ (fun j hj => absurd hj (Nat.not_lt_zero j)) (fun j _ => ⟨rfl, rfl, rfl⟩) (fun q hq => by rw [← eM87, j_up_ne _ _ (by omega)])
-- Events(): its three rows come behind it
set_option maxHeartbeats 800000 in
set_option maxRecDepth 100000 in
theorem c_X0_init (l : Launch) (D : va_G) {ty : jT} {cA : ClassId} (hI : ty[0]? = some (cA, .int)) (b0 : Nat) {M : jM} {n o : Nat} (hn : n = o + 1) (h0 : M o = some (.inr (0, [.null, .null, .null, .int 0]))) : Ct l D ty vwCl nwSQ b0 yX0_init wsX0_init 1 20 3 600 [.ref o] M (o + 1) (fun r M' n' => r = none ∧ n' = o + 4 ∧ EvAt M' o [] ∧ ∀ q, (q < o ∨ o + 3 < q) → M' q = M q) := by
  subst hn
  refine j_start (cc := cX0_init) (maxL := 1) (ret := none) (by decide) rfl [some (.ref o)] (Nat.le_of_ble_eq_true rfl) rfl ?_
  intro p e s m below meth c X hlk hr hnm
  refine j_aload_n X 0 dX0_init_0 rfl rfl ?_
  refine j_objInit X wdX0_init_oi3 wdX0_init_oj wdX0_init_ok dX0_init_1 (Nat.le_of_ble_eq_true rfl) (Nat.le_of_ble_eq_true rfl) ?_
  refine j_aload_n X 0 dX0_init_4 rfl rfl ?_
  refine j_sipush X dX0_init_5 (v := 200) (by decide) ?_
  refine j_newaI X hI wdX0_init_ai (N := 200) (by decide) (by decide) (by decide) (by decide) (by decide) dX0_init_8 ?_
  generalize eM93 : j_up M (o + 1) (.inl (0, 200, .inl (fun _ => 0))) = M93
  have h94 : M93 o = some (.inr (0, [.null, .null, .null, .int 0])) := by rw [← eM93, j_up_ne _ _ (by omega)]; exact h0
  have h95 : M93 (o + 1) = some (.inl (0, 200, .inl (fun _ => 0))) := by rw [← eM93]; exact j_up_self _ _ _
  refine j_putF X h94 rfl iwX0_init_X0 tyX0 tyX0_ok nmX0 0 (by decide) lkX0_init_9 rfl hnm rfl rfl rfl (Nat.le_of_ble_eq_true rfl) (fs' := [.ref (o + 1), .null, .null, .int 0]) rfl dX0_init_10 ?_
  generalize eM96 : j_up M93 o (.inr (0, [.ref (o + 1), .null, .null, .int 0])) = M96
  have h98 : M96 (o + 1) = some (.inl (0, 200, .inl (fun _ => 0))) := by rw [← eM96, j_up_ne _ _ (by omega)]; exact h95
  have h99 : M96 o = some (.inr (0, [.ref (o + 1), .null, .null, .int 0])) := by rw [← eM96]; exact j_up_self _ _ _
  refine j_aload_n X 0 dX0_init_13 rfl rfl ?_
  refine j_sipush X dX0_init_14 (v := 200) (by decide) ?_
  refine j_newaI X hI wdX0_init_ai (N := 200) (by decide) (by decide) (by decide) (by decide) (by decide) dX0_init_17 ?_
  generalize eM100 : j_up M96 (o + 2) (.inl (0, 200, .inl (fun _ => 0))) = M100
  have h101 : M100 (o + 1) = some (.inl (0, 200, .inl (fun _ => 0))) := by rw [← eM100, j_up_ne _ _ (by omega)]; exact h98
  have h102 : M100 o = some (.inr (0, [.ref (o + 1), .null, .null, .int 0])) := by rw [← eM100, j_up_ne _ _ (by omega)]; exact h99
  have h103 : M100 (o + 2) = some (.inl (0, 200, .inl (fun _ => 0))) := by rw [← eM100]; exact j_up_self _ _ _
  refine j_putF X h102 rfl iwX0_init_X0 tyX0 tyX0_ok nmX0 1 (by decide) lkX0_init_15 rfl hnm rfl rfl rfl (Nat.le_of_ble_eq_true rfl) (fs' := [.ref (o + 1), .ref (o + 2), .null, .int 0]) rfl dX0_init_19 ?_
  generalize eM104 : j_up M100 o (.inr (0, [.ref (o + 1), .ref (o + 2), .null, .int 0])) = M104
  have h105 : M104 (o + 1) = some (.inl (0, 200, .inl (fun _ => 0))) := by rw [← eM104, j_up_ne _ _ (by omega)]; exact h101
  have h107 : M104 (o + 2) = some (.inl (0, 200, .inl (fun _ => 0))) := by rw [← eM104, j_up_ne _ _ (by omega)]; exact h103
  have h108 : M104 o = some (.inr (0, [.ref (o + 1), .ref (o + 2), .null, .int 0])) := by rw [← eM104]; exact j_up_self _ _ _
  refine j_aload_n X 0 dX0_init_22 rfl rfl ?_
  refine j_sipush X dX0_init_23 (v := 200) (by decide) ?_
  refine j_newaI X hI wdX0_init_ai (N := 200) (by decide) (by decide) (by decide) (by decide) (by decide) dX0_init_26 ?_
  generalize eM109 : j_up M104 (o + 3) (.inl (0, 200, .inl (fun _ => 0))) = M109
  have h110 : M109 (o + 1) = some (.inl (0, 200, .inl (fun _ => 0))) := by rw [← eM109, j_up_ne _ _ (by omega)]; exact h105
  have h111 : M109 (o + 2) = some (.inl (0, 200, .inl (fun _ => 0))) := by rw [← eM109, j_up_ne _ _ (by omega)]; exact h107
  have h112 : M109 o = some (.inr (0, [.ref (o + 1), .ref (o + 2), .null, .int 0])) := by rw [← eM109, j_up_ne _ _ (by omega)]; exact h108
  have h113 : M109 (o + 3) = some (.inl (0, 200, .inl (fun _ => 0))) := by rw [← eM109]; exact j_up_self _ _ _
  refine j_putF X h112 rfl iwX0_init_X0 tyX0 tyX0_ok nmX0 2 (by decide) lkX0_init_18 rfl hnm rfl rfl rfl (Nat.le_of_ble_eq_true rfl) (fs' := [.ref (o + 1), .ref (o + 2), .ref (o + 3), .int 0]) rfl dX0_init_28 ?_
  generalize eM114 : j_up M109 o (.inr (0, [.ref (o + 1), .ref (o + 2), .ref (o + 3), .int 0])) = M114
  have h115 : M114 (o + 1) = some (.inl (0, 200, .inl (fun _ => 0))) := by rw [← eM114, j_up_ne _ _ (by omega)]; exact h110
  have h116 : M114 (o + 2) = some (.inl (0, 200, .inl (fun _ => 0))) := by rw [← eM114, j_up_ne _ _ (by omega)]; exact h111
  have h118 : M114 (o + 3) = some (.inl (0, 200, .inl (fun _ => 0))) := by rw [← eM114, j_up_ne _ _ (by omega)]; exact h113
  have h119 : M114 o = some (.inr (0, [.ref (o + 1), .ref (o + 2), .ref (o + 3), .int 0])) := by rw [← eM114]; exact j_up_self _ _ _
  refine j_aload_n X 0 dX0_init_31 rfl rfl ?_
  refine j_iconst X dX0_init_32 (v := 0) (by decide) ?_
  refine j_put X h119 rfl iwX0_init_X0 tyX0 tyX0_ok nmX0 3 (by decide) lkX0_init_21 rfl rfl rfl (Nat.le_of_ble_eq_true rfl) (fs' := [.ref (o + 1), .ref (o + 2), .ref (o + 3), .int 0]) rfl dX0_init_33 ?_
  generalize eM120 : j_up M114 o (.inr (0, [.ref (o + 1), .ref (o + 2), .ref (o + 3), .int 0])) = M120
  have h121 : M120 (o + 1) = some (.inl (0, 200, .inl (fun _ => 0))) := by rw [← eM120, j_up_ne _ _ (by omega)]; exact h115
  have h122 : M120 (o + 2) = some (.inl (0, 200, .inl (fun _ => 0))) := by rw [← eM120, j_up_ne _ _ (by omega)]; exact h116
  have h123 : M120 (o + 3) = some (.inl (0, 200, .inl (fun _ => 0))) := by rw [← eM120, j_up_ne _ _ (by omega)]; exact h118
  have h125 : M120 o = some (.inr (0, [.ref (o + 1), .ref (o + 2), .ref (o + 3), .int 0])) := by rw [← eM120]; exact j_up_self _ _ _
  exact j_vret X hlk hr (by omega) (by omega) dX0_init_36 ⟨rfl, rfl, ⟨_, _, _, h125, h121, h122, h123, Nat.zero_le _, fun i hi => absurd hi (Nat.not_lt_zero i)⟩, fun q hq => by rw [← eM120, j_up_ne _ _ (by omega), ← eM114, j_up_ne _ _ (by omega), ← eM109, j_up_ne _ _ (by omega), ← eM104, j_up_ne _ _ (by omega), ← eM100, j_up_ne _ _ (by omega), ← eM96, j_up_ne _ _ (by omega), ← eM93, j_up_ne _ _ (by omega)]⟩
