set_option maxHeartbeats 800000 in
set_option maxRecDepth 100000 in
theorem c_X4_isWithin (l : Launch) (D : va_G) {ty : jT} {cA : ClassId} (hI : ty[0]? = some (cA, .int)) (b0 : Nat) {M : jM} {n : Nat} (x a b : Int32) : Ct l D ty vwCl nwSQ b0 yX4_isWithin wsX4_isWithin 0 0 0 0 [.int x, .int a, .int b] M n (j_rd (.int (if a ≤ x ∧ x ≤ b then 1 else 0)) M n) := by
  refine j_start (cc := cX4_isWithin) (maxL := 3) (ret := (some .boolean)) (by decide) rfl [some (.int x), some (.int a), some (.int b)] (Nat.le_of_ble_eq_true rfl) rfl ?_
  intro p e s m below meth c X hlk hr hnm
  refine j_iload_n X 1 dX4_isWithin_0 rfl rfl ?_
  refine j_iload_n X 0 dX4_isWithin_1 rfl rfl ?_
  refine j_icmp_gt X 14 dX4_isWithin_2 (by decide) (fun c1 => ?_) (fun c1 => ?_)
  · skip
    refine j_iconst X dX4_isWithin_14 (v := 0) (by decide) ?_
    exact j_zret X hlk hr (by omega) (by omega) (by decide) dX4_isWithin_15 ⟨by rw [if_neg (fun h => absurd c1 (Int32.not_lt.mpr h.1))], rfl, rfl⟩
  · skip
    refine j_iload_n X 0 dX4_isWithin_5 rfl rfl ?_
    refine j_iload_n X 2 dX4_isWithin_6 rfl rfl ?_
    refine j_icmp_gt X 14 dX4_isWithin_7 (by decide) (fun c2 => ?_) (fun c2 => ?_)
    · skip
      refine j_iconst X dX4_isWithin_14 (v := 0) (by decide) ?_
      exact j_zret X hlk hr (by omega) (by omega) (by decide) dX4_isWithin_15 ⟨by rw [if_neg (fun h => absurd c2 (Int32.not_lt.mpr h.2))], rfl, rfl⟩
    · skip
      refine j_iconst X dX4_isWithin_10 (v := 1) (by decide) ?_
      refine j_goto X 15 dX4_isWithin_11 (by decide) ?_
      exact j_zret X hlk hr (by omega) (by omega) (by decide) dX4_isWithin_15 ⟨by rw [if_pos ⟨Int32.not_lt.mp c1, Int32.not_lt.mp c2⟩], rfl, rfl⟩
set_option maxHeartbeats 800000 in
set_option maxRecDepth 100000 in
theorem c_X3_size (l : Launch) (D : va_G) {ty : jT} {cA : ClassId} (hI : ty[0]? = some (cA, .int)) (b0 : Nat) {M : jM} {n o : Nat} {re : List Rec} (h : LnAt M o re) : Ct l D ty vwCl nwSQ b0 yX3_size wsX3_size 0 0 0 0 [.ref o] M n (j_rd (.int (nI re.length)) M n) := by
  obtain ⟨fi, arr, h0, h1, hfi, hlen, hl⟩ := id h
  refine j_start (cc := cX3_size) (maxL := 1) (ret := (some .int)) (by decide) rfl [some (.ref o)] (Nat.le_of_ble_eq_true rfl) rfl ?_
  intro p e s m below meth c X hlk hr hnm
  refine j_aload_n X 0 dX3_size_0 rfl rfl ?_
  refine j_get X h0 rfl iwX3_size_X3 2 (by decide) lkX3_size_19 rfl dX3_size_1 ?_
  exact j_iret X hlk hr (by omega) (by omega) dX3_size_4 ⟨rfl, rfl, rfl⟩
set_option maxHeartbeats 800000 in
set_option maxRecDepth 100000 in
theorem c_X3_clear (l : Launch) (D : va_G) {ty : jT} {cA : ClassId} (hI : ty[0]? = some (cA, .int)) (b0 : Nat) {M : jM} {n o : Nat} {re : List Rec} (h : LnAt M o re) : Ct l D ty vwCl nwSQ b0 yX3_clear wsX3_clear 0 0 0 0 [.ref o] M n (fun r M' n' => r = none ∧ n = n' ∧ LnAt M' o [] ∧ ∀ q, (q < o ∨ o + 1 < q) → M' q = M q) := by
  obtain ⟨fi, arr, h0, h1, hfi, hlen, hl⟩ := id h
  refine j_start (cc := cX3_clear) (maxL := 1) (ret := none) (by decide) rfl [some (.ref o)] (Nat.le_of_ble_eq_true rfl) rfl ?_
  intro p e s m below meth c X hlk hr hnm
  refine j_aload_n X 0 dX3_clear_0 rfl rfl ?_
  refine j_iconst X dX3_clear_1 (v := 0) (by decide) ?_
  refine j_put X h0 rfl iwX3_clear_X3 tyX3 tyX3_ok nmX3 1 (by decide) lkX3_clear_15 rfl rfl rfl (Nat.le_of_ble_eq_true rfl) (fs' := [.ref (o + 1), .int 0, .int (nI re.length)]) rfl dX3_clear_2 ?_
  generalize eM3 : j_up M o (.inr (3, [.ref (o + 1), .int 0, .int (nI re.length)])) = M3
  have h5 : M3 (o + 1) = some (.inl (0, 2400, .inl arr)) := by rw [← eM3, j_up_ne _ _ (by omega)]; exact h1
  have h6 : M3 o = some (.inr (3, [.ref (o + 1), .int 0, .int (nI re.length)])) := by rw [← eM3]; exact j_up_self _ _ _
  refine j_aload_n X 0 dX3_clear_5 rfl rfl ?_
  refine j_iconst X dX3_clear_6 (v := 0) (by decide) ?_
  refine j_put X h6 rfl iwX3_clear_X3 tyX3 tyX3_ok nmX3 2 (by decide) lkX3_clear_19 rfl rfl rfl (Nat.le_of_ble_eq_true rfl) (fs' := [.ref (o + 1), .int 0, .int 0]) rfl dX3_clear_7 ?_
  generalize eM7 : j_up M3 o (.inr (3, [.ref (o + 1), .int 0, .int 0])) = M7
  have h8 : M7 (o + 1) = some (.inl (0, 2400, .inl arr)) := by rw [← eM7, j_up_ne _ _ (by omega)]; exact h5
  have h10 : M7 o = some (.inr (3, [.ref (o + 1), .int 0, .int 0])) := by rw [← eM7]; exact j_up_self _ _ _
  exact j_vret X hlk hr (by omega) (by omega) dX3_clear_10 ⟨rfl, rfl, ⟨0, arr, h10, h8, by decide, Nat.zero_le _, fun i hi => absurd hi (Nat.not_lt_zero i)⟩, fun q hq => by rw [← eM7, j_up_ne _ _ (by omega), ← eM3, j_up_ne _ _ (by omega)]⟩
set_option maxHeartbeats 800000 in
set_option maxRecDepth 100000 in
theorem c_X3_init (l : Launch) (D : va_G) {ty : jT} {cA : ClassId} (hI : ty[0]? = some (cA, .int)) (b0 : Nat) {M : jM} {n o : Nat} (hn : n = o + 1) (h0 : M o = some (.inr (3, [.null, .int 0, .int 0]))) : Ct l D ty vwCl nwSQ b0 yX3_init wsX3_init 1 20 1 2400 [.ref o] M (o + 1) (fun r M' n' => r = none ∧ n' = o + 2 ∧ LnAt M' o [] ∧ ∀ q, (q < o ∨ o + 1 < q) → M' q = M q) := by
  subst hn
  refine j_start (cc := cX3_init) (maxL := 1) (ret := none) (by decide) rfl [some (.ref o)] (Nat.le_of_ble_eq_true rfl) rfl ?_
  intro p e s m below meth c X hlk hr hnm
  refine j_aload_n X 0 dX3_init_0 rfl rfl ?_
  refine j_objInit X wdX3_init_oi3 wdX3_init_oj wdX3_init_ok dX3_init_1 (Nat.le_of_ble_eq_true rfl) (Nat.le_of_ble_eq_true rfl) ?_
  refine j_aload_n X 0 dX3_init_4 rfl rfl ?_
  refine j_sipush X dX3_init_5 (v := 2400) (by decide) ?_
  refine j_newaI X hI wdX3_init_ai (N := 2400) (by decide) (by decide) (by decide) (by decide) (by decide) dX3_init_8 ?_
  generalize eM11 : j_up M (o + 1) (.inl (0, 2400, .inl (fun _ => 0))) = M11
  have h12 : M11 o = some (.inr (3, [.null, .int 0, .int 0])) := by rw [← eM11, j_up_ne _ _ (by omega)]; exact h0
  have h13 : M11 (o + 1) = some (.inl (0, 2400, .inl (fun _ => 0))) := by rw [← eM11]; exact j_up_self _ _ _
  refine j_putF X h12 rfl iwX3_init_X3 tyX3 tyX3_ok nmX3 0 (by decide) lkX3_init_11 rfl hnm rfl rfl rfl (Nat.le_of_ble_eq_true rfl) (fs' := [.ref (o + 1), .int 0, .int 0]) rfl dX3_init_10 ?_
  generalize eM14 : j_up M11 o (.inr (3, [.ref (o + 1), .int 0, .int 0])) = M14
  have h16 : M14 (o + 1) = some (.inl (0, 2400, .inl (fun _ => 0))) := by rw [← eM14, j_up_ne _ _ (by omega)]; exact h13
  have h17 : M14 o = some (.inr (3, [.ref (o + 1), .int 0, .int 0])) := by rw [← eM14]; exact j_up_self _ _ _
  refine j_aload_n X 0 dX3_init_13 rfl rfl ?_
  refine j_iconst X dX3_init_14 (v := 0) (by decide) ?_
  refine j_put X h17 rfl iwX3_init_X3 tyX3 tyX3_ok nmX3 1 (by decide) lkX3_init_15 rfl rfl rfl (Nat.le_of_ble_eq_true rfl) (fs' := [.ref (o + 1), .int 0, .int 0]) rfl dX3_init_15 ?_
  generalize eM18 : j_up M14 o (.inr (3, [.ref (o + 1), .int 0, .int 0])) = M18
  have h19 : M18 (o + 1) = some (.inl (0, 2400, .inl (fun _ => 0))) := by rw [← eM18, j_up_ne _ _ (by omega)]; exact h16
  have h21 : M18 o = some (.inr (3, [.ref (o + 1), .int 0, .int 0])) := by rw [← eM18]; exact j_up_self _ _ _
  refine j_aload_n X 0 dX3_init_18 rfl rfl ?_
  refine j_iconst X dX3_init_19 (v := 0) (by decide) ?_
  refine j_put X h21 rfl iwX3_init_X3 tyX3 tyX3_ok nmX3 2 (by decide) lkX3_init_19 rfl rfl rfl (Nat.le_of_ble_eq_true rfl) (fs' := [.ref (o + 1), .int 0, .int 0]) rfl dX3_init_20 ?_
  generalize eM22 : j_up M18 o (.inr (3, [.ref (o + 1), .int 0, .int 0])) = M22
  have h23 : M22 (o + 1) = some (.inl (0, 2400, .inl (fun _ => 0))) := by rw [← eM22, j_up_ne _ _ (by omega)]; exact h19
  have h25 : M22 o = some (.inr (3, [.ref (o + 1), .int 0, .int 0])) := by rw [← eM22]; exact j_up_self _ _ _
  exact j_vret X hlk hr (by omega) (by omega) dX3_init_23 ⟨rfl, rfl, ⟨0, _, h25, h23, by decide, Nat.zero_le _, fun i hi => absurd hi (Nat.not_lt_zero i)⟩, fun q hq => by rw [← eM22, j_up_ne _ _ (by omega), ← eM18, j_up_ne _ _ (by omega), ← eM14, j_up_ne _ _ (by omega), ← eM11, j_up_ne _ _ (by omega)]⟩
set_option maxHeartbeats 800000 in
set_option maxRecDepth 100000 in
theorem c_X3_rowOf (l : Launch) (D : va_G) {ty : jT} {cA : ClassId} (hI : ty[0]? = some (cA, .int)) (b0 : Nat) {M : jM} {n o fi z : Nat} (h0 : M o = some (.inr (3, [.ref (o + 1), .int (nI fi), .int (nI z)]))) (hfi : fi < 400) {j : Nat} (hj : j ≤ 400) : Ct l D ty vwCl nwSQ b0 yX3_rowOf wsX3_rowOf 0 0 0 0 [.ref o, .int (nI j)] M n (j_rd (.int (nI ((fi + j) % 400 * 6))) M n) := by
  refine j_start (cc := cX3_rowOf) (maxL := 2) (ret := (some .int)) (by decide) rfl [some (.ref o), some (.int (nI j))] (Nat.le_of_ble_eq_true rfl) rfl ?_
  intro p e s m below meth c X hlk hr hnm
  refine j_aload_n X 0 dX3_rowOf_0 rfl rfl ?_
  refine j_get X h0 rfl iwX3_rowOf_X3 1 (by decide) lkX3_rowOf_15 rfl dX3_rowOf_1 ?_
  refine j_iload_n X 1 dX3_rowOf_4 rfl rfl ?_
  refine j_iadd X dX3_rowOf_5 ?_
  refine j_st (st := [.int (nI (fi + j))]) (by rw [show (nI fi) + (nI j) = nI (fi + j) from nI_add _ _]) ?_
  refine j_sipush X dX3_rowOf_6 (v := 400) (by decide) ?_
  refine j_irem X dX3_rowOf_9 (by decide) ?_
  refine j_bipush X dX3_rowOf_10 (v := 6) (by decide) ?_
  refine j_imul X dX3_rowOf_12 ?_
  exact j_iret X hlk hr (by omega) (by omega) dX3_rowOf_13 ⟨congrArg (fun x => some (Value.int x)) (ln_row (show fi + j < 2 ^ 31 by omega)), rfl, rfl⟩
set_option maxHeartbeats 800000 in
set_option maxRecDepth 100000 in
theorem c_X3_add (l : Launch) (D : va_G) {ty : jT} {cA : ClassId} (hI : ty[0]? = some (cA, .int)) (b0 : Nat) {M : jM} {n o : Nat} {re : List Rec} (h : LnAt M o re) (hlt : re.length < 400) (a0 a1 a2 a3 a4 a5 : Int32) : Ct l D ty vwCl nwSQ b0 yX3_add wsX3_add 1 21 0 0 [.ref o, .int a0, .int a1, .int a2, .int a3, .int a4, .int a5] M n (fun r M' n' => r = none ∧ n = n' ∧ LnAt M' o (re ++ [(a0, a1, a2, a3, a4, a5)]) ∧ ∀ q, (q < o ∨ o + 1 < q) → M' q = M q) := by
  obtain ⟨fi, arr, h0, h1, hfi, hlen, hl⟩ := id h
  refine j_start (cc := cX3_add) (maxL := 8) (ret := none) (by decide) rfl [some (.ref o), some (.int a0), some (.int a1), some (.int a2), some (.int a3), some (.int a4), some (.int a5), none] (Nat.le_of_ble_eq_true rfl) rfl ?_
  intro p e s m below meth c X hlk hr hnm
  refine j_aload_n X 0 dX3_add_0 rfl rfl ?_
  refine j_get X h0 rfl iwX3_add_X3 2 (by decide) lkX3_add_19 rfl dX3_add_1 ?_
  refine j_sipush X dX3_add_4 (v := 400) (by decide) ?_
  refine j_icmp_lt X 11 dX3_add_7 (by decide) (fun c26 => ?_) (fun c26 => ?_)
  · skip
    refine j_aload_n X 0 dX3_add_11 rfl rfl ?_
    refine j_aload_n X 0 dX3_add_12 rfl rfl ?_
    refine j_get X h0 rfl iwX3_add_X3 2 (by decide) lkX3_add_19 rfl dX3_add_13 ?_
    refine j_callV X nwSQ_ok (As := [.int (nI re.length)]) (rest := []) h0 rfl rfl (c_X3_rowOf l D hI b0 h0 hfi (j := re.length) (by omega)) rfl gX3_add_X3_rowOf ⟨rfl, ddX3_rowOf⟩ ⟨Nat.le_of_ble_eq_true rfl, Nat.le_of_ble_eq_true rfl⟩ (Nat.le_of_ble_eq_true rfl) rfl dX3_add_16 ⟨(by show 0 + 0 ≤ 0; omega), (by show 0 + 0 ≤ 0; omega)⟩ (fun r27 M28 n29 hr30 => ?_)
    obtain ⟨rfl, rfl, rfl⟩ := hr30
    generalize hrw : (fi + re.length) % 400 * 6 = row
    have hr5 : row + 5 < 2400 := by omega
    refine j_st (st := [.int (nI row)]) rfl ?_
    refine j_istore X dX3_add_19 (by decide) rfl (L' := [some (.ref o), some (.int a0), some (.int a1), some (.int a2), some (.int a3), some (.int a4), some (.int a5), some (.int (nI row))]) rfl ?_
    refine j_aload_n X 0 dX3_add_21 rfl rfl ?_
    refine j_get X h0 rfl iwX3_add_X3 0 (by decide) lkX3_add_11 rfl dX3_add_22 ?_
    refine j_iload X dX3_add_25 rfl ?_
    refine j_iload_n X 1 dX3_add_27 rfl rfl ?_
    refine j_iast X h1 hI (vp_in_nI (show row < 2400 by omega) (by decide)) dX3_add_28 ?_
    rw [nI_clamp (show row < 2 ^ 31 by omega)]
    generalize eM31 : j_up M (o + 1) (.inl (0, 2400, .inl (upd arr row a0))) = M31
    have h32 : M31 o = some (.inr (3, [.ref (o + 1), .int (nI fi), .int (nI re.length)])) := by rw [← eM31, j_up_ne _ _ (by omega)]; exact h0
    have h34 : M31 (o + 1) = some (.inl (0, 2400, .inl (upd arr row a0))) := by rw [← eM31]; exact j_up_self _ _ _
    refine j_aload_n X 0 dX3_add_29 rfl rfl ?_
    refine j_get X h32 rfl iwX3_add_X3 0 (by decide) lkX3_add_11 rfl dX3_add_30 ?_
    refine j_iload X dX3_add_33 rfl ?_
    refine j_iconst X dX3_add_35 (v := 1) (by decide) ?_
    refine j_iadd X dX3_add_36 ?_
    refine j_st (st := [.int (nI (row + 1)), .ref (o + 1)]) (by rw [show (nI row) + 1 = nI (row + 1) from nI_add _ 1]) ?_
    refine j_iload_n X 2 dX3_add_37 rfl rfl ?_
    refine j_iast X h34 hI (vp_in_nI (show row + 1 < 2400 by omega) (by decide)) dX3_add_38 ?_
    rw [nI_clamp (show row + 1 < 2 ^ 31 by omega)]
    generalize eM35 : j_up M31 (o + 1) (.inl (0, 2400, .inl (upd (upd arr row a0) (row + 1) a1))) = M35
    have h36 : M35 o = some (.inr (3, [.ref (o + 1), .int (nI fi), .int (nI re.length)])) := by rw [← eM35, j_up_ne _ _ (by omega)]; exact h32
    have h38 : M35 (o + 1) = some (.inl (0, 2400, .inl (upd (upd arr row a0) (row + 1) a1))) := by rw [← eM35]; exact j_up_self _ _ _
    refine j_aload_n X 0 dX3_add_39 rfl rfl ?_
    refine j_get X h36 rfl iwX3_add_X3 0 (by decide) lkX3_add_11 rfl dX3_add_40 ?_
    refine j_iload X dX3_add_43 rfl ?_
    refine j_iconst X dX3_add_45 (v := 2) (by decide) ?_
    refine j_iadd X dX3_add_46 ?_
    refine j_st (st := [.int (nI (row + 2)), .ref (o + 1)]) (by rw [show (nI row) + 2 = nI (row + 2) from nI_add _ 2]) ?_
    refine j_iload_n X 3 dX3_add_47 rfl rfl ?_
    refine j_iast X h38 hI (vp_in_nI (show row + 2 < 2400 by omega) (by decide)) dX3_add_48 ?_
    rw [nI_clamp (show row + 2 < 2 ^ 31 by omega)]
    generalize eM39 : j_up M35 (o + 1) (.inl (0, 2400, .inl (upd (upd (upd arr row a0) (row + 1) a1) (row + 2) a2))) = M39
    have h40 : M39 o = some (.inr (3, [.ref (o + 1), .int (nI fi), .int (nI re.length)])) := by rw [← eM39, j_up_ne _ _ (by omega)]; exact h36
    have h42 : M39 (o + 1) = some (.inl (0, 2400, .inl (upd (upd (upd arr row a0) (row + 1) a1) (row + 2) a2))) := by rw [← eM39]; exact j_up_self _ _ _
    refine j_aload_n X 0 dX3_add_49 rfl rfl ?_
    refine j_get X h40 rfl iwX3_add_X3 0 (by decide) lkX3_add_11 rfl dX3_add_50 ?_
    refine j_iload X dX3_add_53 rfl ?_
    refine j_iconst X dX3_add_55 (v := 3) (by decide) ?_
    refine j_iadd X dX3_add_56 ?_
    refine j_st (st := [.int (nI (row + 3)), .ref (o + 1)]) (by rw [show (nI row) + 3 = nI (row + 3) from nI_add _ 3]) ?_
    refine j_iload X dX3_add_57 rfl ?_
    refine j_iast X h42 hI (vp_in_nI (show row + 3 < 2400 by omega) (by decide)) dX3_add_59 ?_
    rw [nI_clamp (show row + 3 < 2 ^ 31 by omega)]
    generalize eM43 : j_up M39 (o + 1) (.inl (0, 2400, .inl (upd (upd (upd (upd arr row a0) (row + 1) a1) (row + 2) a2) (row + 3) a3))) = M43
    have h44 : M43 o = some (.inr (3, [.ref (o + 1), .int (nI fi), .int (nI re.length)])) := by rw [← eM43, j_up_ne _ _ (by omega)]; exact h40
    have h46 : M43 (o + 1) = some (.inl (0, 2400, .inl (upd (upd (upd (upd arr row a0) (row + 1) a1) (row + 2) a2) (row + 3) a3))) := by rw [← eM43]; exact j_up_self _ _ _
    refine j_aload_n X 0 dX3_add_60 rfl rfl ?_
    refine j_get X h44 rfl iwX3_add_X3 0 (by decide) lkX3_add_11 rfl dX3_add_61 ?_
    refine j_iload X dX3_add_64 rfl ?_
    refine j_iconst X dX3_add_66 (v := 4) (by decide) ?_
    refine j_iadd X dX3_add_67 ?_
    refine j_st (st := [.int (nI (row + 4)), .ref (o + 1)]) (by rw [show (nI row) + 4 = nI (row + 4) from nI_add _ 4]) ?_
    refine j_iload X dX3_add_68 rfl ?_
    refine j_iast X h46 hI (vp_in_nI (show row + 4 < 2400 by omega) (by decide)) dX3_add_70 ?_
    rw [nI_clamp (show row + 4 < 2 ^ 31 by omega)]
    generalize eM47 : j_up M43 (o + 1) (.inl (0, 2400, .inl (upd (upd (upd (upd (upd arr row a0) (row + 1) a1) (row + 2) a2) (row + 3) a3) (row + 4) a4))) = M47
    have h48 : M47 o = some (.inr (3, [.ref (o + 1), .int (nI fi), .int (nI re.length)])) := by rw [← eM47, j_up_ne _ _ (by omega)]; exact h44
    have h50 : M47 (o + 1) = some (.inl (0, 2400, .inl (upd (upd (upd (upd (upd arr row a0) (row + 1) a1) (row + 2) a2) (row + 3) a3) (row + 4) a4))) := by rw [← eM47]; exact j_up_self _ _ _
    refine j_aload_n X 0 dX3_add_71 rfl rfl ?_
    refine j_get X h48 rfl iwX3_add_X3 0 (by decide) lkX3_add_11 rfl dX3_add_72 ?_
    refine j_iload X dX3_add_75 rfl ?_
    refine j_iconst X dX3_add_77 (v := 5) (by decide) ?_
    refine j_iadd X dX3_add_78 ?_
    refine j_st (st := [.int (nI (row + 5)), .ref (o + 1)]) (by rw [show (nI row) + 5 = nI (row + 5) from nI_add _ 5]) ?_
    refine j_iload X dX3_add_79 rfl ?_
    refine j_iast X h50 hI (vp_in_nI (show row + 5 < 2400 by omega) (by decide)) dX3_add_81 ?_
    rw [nI_clamp (show row + 5 < 2 ^ 31 by omega)]
    generalize eM51 : j_up M47 (o + 1) (.inl (0, 2400, .inl (upd (upd (upd (upd (upd (upd arr row a0) (row + 1) a1) (row + 2) a2) (row + 3) a3) (row + 4) a4) (row + 5) a5))) = M51
    have h52 : M51 o = some (.inr (3, [.ref (o + 1), .int (nI fi), .int (nI re.length)])) := by rw [← eM51, j_up_ne _ _ (by omega)]; exact h48
    have h54 : M51 (o + 1) = some (.inl (0, 2400, .inl (upd (upd (upd (upd (upd (upd arr row a0) (row + 1) a1) (row + 2) a2) (row + 3) a3) (row + 4) a4) (row + 5) a5))) := by rw [← eM51]; exact j_up_self _ _ _
    refine j_aload_n X 0 dX3_add_82 rfl rfl ?_
    refine j_dup X dX3_add_83 rfl ?_
    refine j_get X h52 rfl iwX3_add_X3 2 (by decide) lkX3_add_19 rfl dX3_add_84 ?_
    refine j_iconst X dX3_add_87 (v := 1) (by decide) ?_
    refine j_iadd X dX3_add_88 ?_
    refine j_st (st := [.int (nI (re.length + 1)), .ref o]) (by rw [show (nI re.length) + 1 = nI (re.length + 1) from nI_add _ 1]) ?_
    refine j_put X h52 rfl iwX3_add_X3 tyX3 tyX3_ok nmX3 2 (by decide) lkX3_add_19 rfl rfl rfl (Nat.le_of_ble_eq_true rfl) (fs' := [.ref (o + 1), .int (nI fi), .int (nI (re.length + 1))]) rfl dX3_add_89 ?_
    generalize eM55 : j_up M51 o (.inr (3, [.ref (o + 1), .int (nI fi), .int (nI (re.length + 1))])) = M55
    have h57 : M55 (o + 1) = some (.inl (0, 2400, .inl (upd (upd (upd (upd (upd (upd arr row a0) (row + 1) a1) (row + 2) a2) (row + 3) a3) (row + 4) a4) (row + 5) a5))) := by rw [← eM55, j_up_ne _ _ (by omega)]; exact h54
    have h58 : M55 o = some (.inr (3, [.ref (o + 1), .int (nI fi), .int (nI (re.length + 1))])) := by rw [← eM55]; exact j_up_self _ _ _
    exact j_vret X hlk hr (by omega) (by omega) dX3_add_92 ⟨rfl, rfl, ⟨fi, _, by rw [List.length_append]; exact h58, h57, hfi, by rw [List.length_append]; show re.length + 1 ≤ 400; omega, ln_push hfi hlt hl a0 a1 a2 a3 a4 a5 hrw⟩, fun q hq => by rw [← eM55, j_up_ne _ _ (by omega), ← eM51, j_up_ne _ _ (by omega), ← eM47, j_up_ne _ _ (by omega), ← eM43, j_up_ne _ _ (by omega), ← eM39, j_up_ne _ _ (by omega), ← eM35, j_up_ne _ _ (by omega), ← eM31, j_up_ne _ _ (by omega)]⟩
  · skip
    exact absurd (show nI re.length < 400 from nI_lt (b := 400) hlt (by decide)) c26
set_option maxHeartbeats 800000 in
set_option maxRecDepth 100000 in
theorem c_X3_cellT (l : Launch) (D : va_G) {ty : jT} {cA : ClassId} (hI : ty[0]? = some (cA, .int)) (b0 : Nat) {M : jM} {n o : Nat} {re : List Rec} (h : LnAt M o re) {j k : Nat} {rc : Rec} (hj : j < re.length) (hk : k < 6) (hrc : re[j]? = some rc) : Ct l D ty vwCl nwSQ b0 yX3_cell wsX3_cell 1 22 0 0 [.ref o, .int (nI j), .int (nI k)] M n (j_rd (.int (rec_get rc k)) M n) := by
  obtain ⟨fi, arr, h0, h1, hfi, hlen, hl⟩ := id h
  have hq := hl j hj
  rw [hrc] at hq
  cases hq
  refine j_start (cc := cX3_cell) (maxL := 4) (ret := (some .int)) (by decide) rfl [some (.ref o), some (.int (nI j)), some (.int (nI k)), none] (Nat.le_of_ble_eq_true rfl) rfl ?_
  intro p e s m below meth c X hlk hr hnm
  refine j_iload_n X 1 dX3_cell_0 rfl rfl ?_
  refine j_iconst X dX3_cell_1 (v := 0) (by decide) ?_
  refine j_aload_n X 0 dX3_cell_2 rfl rfl ?_
  refine j_get X h0 rfl iwX3_cell_X3 2 (by decide) lkX3_cell_19 rfl dX3_cell_3 ?_
  refine j_iconst X dX3_cell_6 (v := 1) (by decide) ?_
  refine j_isub X dX3_cell_7 ?_
  refine j_callSN X nwSQ_ok (As := [.int (nI j), .int 0, .int ((nI re.length) - 1)]) (rest := []) rfl (c_X4_isWithin l D hI b0 (nI j) 0 ((nI re.length) - 1)) rfl gX3_cell_X4_isWithin_n22 nlX3_22 wdX3_cell_inX4 wdX3_cell_stX4_isWithin ddX4_isWithin ⟨Nat.le_of_ble_eq_true rfl, Nat.le_of_ble_eq_true rfl⟩ (Nat.le_of_ble_eq_true rfl) rfl dX3_cell_8 ⟨(by show 0 + 0 ≤ 0; omega), (by show 0 + 0 ≤ 0; omega)⟩ (fun r59 M60 n61 hr62 => ?_)
  obtain ⟨rfl, rfl, rfl⟩ := hr62
  refine j_st (st := [.int 1]) (by rw [show (if 0 ≤ (nI j) ∧ (nI j) ≤ ((nI re.length) - 1) then 1 else 0 : Int32) = 1 from if_pos ⟨nI_pos' (by omega), by rw [show nI re.length - 1 = nI (re.length - 1) from by obtain ⟨z, hz⟩ : ∃ z, re.length = z + 1 := ⟨re.length - 1, by omega⟩; rw [hz]; exact nI_pred z]; exact nI_le (by omega) (by omega)⟩]; rfl) ?_
  refine j_if_eq X 27 dX3_cell_11 (by decide) (fun c63 => ?_) (fun c63 => ?_)
  · skip
    exact absurd c63 (by decide)
  · skip
    refine j_iload_n X 2 dX3_cell_14 rfl rfl ?_
    refine j_iconst X dX3_cell_15 (v := 0) (by decide) ?_
    refine j_iconst X dX3_cell_16 (v := 5) (by decide) ?_
    refine j_callSN X nwSQ_ok (As := [.int (nI k), .int 0, .int 5]) (rest := []) rfl (c_X4_isWithin l D hI b0 (nI k) 0 5) rfl gX3_cell_X4_isWithin_n22 nlX3_22 wdX3_cell_inX4 wdX3_cell_stX4_isWithin ddX4_isWithin ⟨Nat.le_of_ble_eq_true rfl, Nat.le_of_ble_eq_true rfl⟩ (Nat.le_of_ble_eq_true rfl) rfl dX3_cell_17 ⟨(by show 0 + 0 ≤ 0; omega), (by show 0 + 0 ≤ 0; omega)⟩ (fun r64 M65 n66 hr67 => ?_)
    obtain ⟨rfl, rfl, rfl⟩ := hr67
    refine j_st (st := [.int 1]) (by rw [show (if 0 ≤ (nI k) ∧ (nI k) ≤ 5 then 1 else 0 : Int32) = 1 from if_pos ⟨nI_pos' (by omega), nI_le (b := 5) (by omega) (by decide)⟩]; rfl) ?_
    refine j_if_eq X 27 dX3_cell_20 (by decide) (fun c68 => ?_) (fun c68 => ?_)
    · skip
      exact absurd c68 (by decide)
    · skip
      refine j_iconst X dX3_cell_23 (v := 1) (by decide) ?_
      refine j_goto X 28 dX3_cell_24 (by decide) ?_
      refine j_istore_n X 3 dX3_cell_28 rfl (by decide) rfl (L' := [some (.ref o), some (.int (nI j)), some (.int (nI k)), some (.int 1)]) rfl ?_
      refine j_iload_n X 3 dX3_cell_29 rfl rfl ?_
      refine j_if_eq X 48 dX3_cell_30 (by decide) (fun c69 => ?_) (fun c69 => ?_)
      · skip
        exact absurd c69 (by decide)
      · skip
        refine j_aload_n X 0 dX3_cell_33 rfl rfl ?_
        refine j_get X h0 rfl iwX3_cell_X3 0 (by decide) lkX3_cell_11 rfl dX3_cell_34 ?_
        refine j_aload_n X 0 dX3_cell_37 rfl rfl ?_
        refine j_iload_n X 1 dX3_cell_38 rfl rfl ?_
        refine j_callV X nwSQ_ok (As := [.int (nI j)]) (rest := [.ref (o + 1)]) h0 rfl rfl (c_X3_rowOf l D hI b0 h0 hfi (j := j) (by omega)) rfl gX3_cell_X3_rowOf ⟨rfl, ddX3_rowOf⟩ ⟨Nat.le_of_ble_eq_true rfl, Nat.le_of_ble_eq_true rfl⟩ (Nat.le_of_ble_eq_true rfl) rfl dX3_cell_39 ⟨(by show 0 + 0 ≤ 0; omega), (by show 0 + 0 ≤ 0; omega)⟩ (fun r70 M71 n72 hr73 => ?_)
        obtain ⟨rfl, rfl, rfl⟩ := hr73
        refine j_st (st := [.int (nI ((fi + j) % 400 * 6)), .ref (o + 1)]) rfl ?_
        refine j_iload_n X 2 dX3_cell_42 rfl rfl ?_
        refine j_iadd X dX3_cell_43 ?_
        refine j_st (st := [.int (nI ((fi + j) % 400 * 6 + k)), .ref (o + 1)]) (by rw [show (nI ((fi + j) % 400 * 6)) + (nI k) = nI ((fi + j) % 400 * 6 + k) from nI_add _ _]) ?_
        refine j_iald X h1 hI (vp_in_nI (show (fi + j) % 400 * 6 + k < 2400 by omega) (by decide)) (v := arr ((fi + j) % 400 * 6 + k)) (congrArg arr (nI_clamp (show (fi + j) % 400 * 6 + k < 2 ^ 31 by omega))) dX3_cell_44 ?_
        refine j_goto X 49 dX3_cell_45 (by decide) ?_
        exact j_iret X hlk hr (by omega) (by omega) dX3_cell_49 ⟨by rw [rec_row _ _ k hk], rfl, rfl⟩
set_option maxHeartbeats 800000 in
set_option maxRecDepth 100000 in
theorem c_X3_cellF (l : Launch) (D : va_G) {ty : jT} {cA : ClassId} (hI : ty[0]? = some (cA, .int)) (b0 : Nat) {M : jM} {n o : Nat} {re : List Rec} (h : LnAt M o re) {i k : Int32} (hi : i < 0 ∨ nI re.length ≤ i) : Ct l D ty vwCl nwSQ b0 yX3_cell wsX3_cell 1 22 0 0 [.ref o, .int i, .int k] M n (j_rd (.int 0) M n) := by
  obtain ⟨fi, arr, h0, h1, hfi, hlen, hl⟩ := id h
  have hw : ¬ ((0 : Int32) ≤ i ∧ i ≤ nI re.length - 1) := by
    intro g
    have g1 := Int32.le_iff_toInt_le.mp g.1
    have g2 := Int32.le_iff_toInt_le.mp g.2
    rw [show (nI re.length - 1).toInt = (re.length : Int) - 1 from pk_sub_toInt (b := 1) (by omega) (by decide)] at g2
    rcases hi with hi | hi
    · have := Int32.lt_iff_toInt_lt.mp hi
      omega
    · have := Int32.le_iff_toInt_le.mp hi
      rw [nI_toInt (by omega)] at this
      omega
  refine j_start (cc := cX3_cell) (maxL := 4) (ret := (some .int)) (by decide) rfl [some (.ref o), some (.int i), some (.int k), none] (Nat.le_of_ble_eq_true rfl) rfl ?_
  intro p e s m below meth c X hlk hr hnm
  refine j_iload_n X 1 dX3_cell_0 rfl rfl ?_
  refine j_iconst X dX3_cell_1 (v := 0) (by decide) ?_
  refine j_aload_n X 0 dX3_cell_2 rfl rfl ?_
  refine j_get X h0 rfl iwX3_cell_X3 2 (by decide) lkX3_cell_19 rfl dX3_cell_3 ?_
  refine j_iconst X dX3_cell_6 (v := 1) (by decide) ?_
  refine j_isub X dX3_cell_7 ?_
  refine j_callSN X nwSQ_ok (As := [.int i, .int 0, .int ((nI re.length) - 1)]) (rest := []) rfl (c_X4_isWithin l D hI b0 i 0 ((nI re.length) - 1)) rfl gX3_cell_X4_isWithin_n22 nlX3_22 wdX3_cell_inX4 wdX3_cell_stX4_isWithin ddX4_isWithin ⟨Nat.le_of_ble_eq_true rfl, Nat.le_of_ble_eq_true rfl⟩ (Nat.le_of_ble_eq_true rfl) rfl dX3_cell_8 ⟨(by show 0 + 0 ≤ 0; omega), (by show 0 + 0 ≤ 0; omega)⟩ (fun r74 M75 n76 hr77 => ?_)
  obtain ⟨rfl, rfl, rfl⟩ := hr77
  refine j_st (st := [.int 0]) (by rw [show (if 0 ≤ i ∧ i ≤ ((nI re.length) - 1) then 1 else 0 : Int32) = 0 from if_neg hw]; rfl) ?_
  refine j_if_eq X 27 dX3_cell_11 (by decide) (fun c78 => ?_) (fun c78 => ?_)
  · skip
    refine j_iconst X dX3_cell_27 (v := 0) (by decide) ?_
    refine j_istore_n X 3 dX3_cell_28 rfl (by decide) rfl (L' := [some (.ref o), some (.int i), some (.int k), some (.int 0)]) rfl ?_
    refine j_iload_n X 3 dX3_cell_29 rfl rfl ?_
    refine j_if_eq X 48 dX3_cell_30 (by decide) (fun c79 => ?_) (fun c79 => ?_)
    · skip
      refine j_iconst X dX3_cell_48 (v := 0) (by decide) ?_
      exact j_iret X hlk hr (by omega) (by omega) dX3_cell_49 ⟨rfl, rfl, rfl⟩
    · skip
      exact absurd rfl c79
  · skip
    exact absurd rfl c78
set_option maxHeartbeats 800000 in
set_option maxRecDepth 100000 in
theorem c_X3_dropE (l : Launch) (D : va_G) {ty : jT} {cA : ClassId} (hI : ty[0]? = some (cA, .int)) (b0 : Nat) {M : jM} {n o : Nat} (h : LnAt M o []) : Ct l D ty vwCl nwSQ b0 yX3_dropFirst wsX3_dropFirst 0 0 0 0 [.ref o] M n (j_rd (.int 0) M n) := by
  obtain ⟨fi, arr, h0, h1, hfi, hlen, hl⟩ := id h
  refine j_start (cc := cX3_dropFirst) (maxL := 1) (ret := (some .boolean)) (by decide) rfl [some (.ref o)] (Nat.le_of_ble_eq_true rfl) rfl ?_
  intro p e s m below meth c X hlk hr hnm
  refine j_aload_n X 0 dX3_dropFirst_0 rfl rfl ?_
  refine j_get X h0 rfl iwX3_dropFirst_X3 2 (by decide) lkX3_dropFirst_19 rfl dX3_dropFirst_1 ?_
  refine j_if_ne X 9 dX3_dropFirst_4 (by decide) (fun c80 => ?_) (fun c80 => ?_)
  · skip
    exact absurd rfl c80
  · skip
    refine j_iconst X dX3_dropFirst_7 (v := 0) (by decide) ?_
    exact j_zret X hlk hr (by omega) (by omega) (by decide) dX3_dropFirst_8 ⟨rfl, rfl, rfl⟩
set_option maxHeartbeats 800000 in
set_option maxRecDepth 100000 in
theorem c_X3_dropC (l : Launch) (D : va_G) {ty : jT} {cA : ClassId} (hI : ty[0]? = some (cA, .int)) (b0 : Nat) {M : jM} {n o : Nat} {rc : Rec} {re : List Rec} (h : LnAt M o (rc :: re)) : Ct l D ty vwCl nwSQ b0 yX3_dropFirst wsX3_dropFirst 0 0 0 0 [.ref o] M n (fun r M' n' => r = some (.int 1) ∧ n = n' ∧ LnAt M' o re ∧ ∀ q, (q < o ∨ o + 1 < q) → M' q = M q) := by
  obtain ⟨fi, arr, h0, h1, hfi, hlen, hl⟩ := id h
  have hlen : re.length + 1 ≤ 400 := hlen
  refine j_start (cc := cX3_dropFirst) (maxL := 1) (ret := (some .boolean)) (by decide) rfl [some (.ref o)] (Nat.le_of_ble_eq_true rfl) rfl ?_
  intro p e s m below meth c X hlk hr hnm
  refine j_aload_n X 0 dX3_dropFirst_0 rfl rfl ?_
  refine j_get X h0 rfl iwX3_dropFirst_X3 2 (by decide) lkX3_dropFirst_19 rfl dX3_dropFirst_1 ?_
  refine j_if_ne X 9 dX3_dropFirst_4 (by decide) (fun c81 => ?_) (fun c81 => ?_)
  · skip
    refine j_aload_n X 0 dX3_dropFirst_9 rfl rfl ?_
    refine j_aload_n X 0 dX3_dropFirst_10 rfl rfl ?_
    refine j_get X h0 rfl iwX3_dropFirst_X3 1 (by decide) lkX3_dropFirst_15 rfl dX3_dropFirst_11 ?_
    refine j_iconst X dX3_dropFirst_14 (v := 1) (by decide) ?_
    refine j_iadd X dX3_dropFirst_15 ?_
    refine j_st (st := [.int (nI (fi + 1)), .ref o]) (by rw [show (nI fi) + 1 = nI (fi + 1) from nI_add _ 1]) ?_
    refine j_sipush X dX3_dropFirst_16 (v := 400) (by decide) ?_
    refine j_irem X dX3_dropFirst_19 (by decide) ?_
    refine j_put X h0 rfl iwX3_dropFirst_X3 tyX3 tyX3_ok nmX3 1 (by decide) lkX3_dropFirst_15 rfl rfl rfl (Nat.le_of_ble_eq_true rfl) (fs' := [.ref (o + 1), .int ((nI (fi + 1)) - (nI (fi + 1)) / 400 * 400), .int (nI (re.length + 1))]) rfl dX3_dropFirst_20 ?_
    generalize eM82 : j_up M o (.inr (3, [.ref (o + 1), .int ((nI (fi + 1)) - (nI (fi + 1)) / 400 * 400), .int (nI (re.length + 1))])) = M82
    have h84 : M82 (o + 1) = some (.inl (0, 2400, .inl arr)) := by rw [← eM82, j_up_ne _ _ (by omega)]; exact h1
    have h85 : M82 o = some (.inr (3, [.ref (o + 1), .int ((nI (fi + 1)) - (nI (fi + 1)) / 400 * 400), .int (nI (re.length + 1))])) := by rw [← eM82]; exact j_up_self _ _ _
    refine j_aload_n X 0 dX3_dropFirst_23 rfl rfl ?_
    refine j_dup X dX3_dropFirst_24 rfl ?_
    refine j_get X h85 rfl iwX3_dropFirst_X3 2 (by decide) lkX3_dropFirst_19 rfl dX3_dropFirst_25 ?_
    refine j_iconst X dX3_dropFirst_28 (v := 1) (by decide) ?_
    refine j_isub X dX3_dropFirst_29 ?_
    refine j_put X h85 rfl iwX3_dropFirst_X3 tyX3 tyX3_ok nmX3 2 (by decide) lkX3_dropFirst_19 rfl rfl rfl (Nat.le_of_ble_eq_true rfl) (fs' := [.ref (o + 1), .int ((nI (fi + 1)) - (nI (fi + 1)) / 400 * 400), .int ((nI (re.length + 1)) - 1)]) rfl dX3_dropFirst_30 ?_
    generalize eM86 : j_up M82 o (.inr (3, [.ref (o + 1), .int ((nI (fi + 1)) - (nI (fi + 1)) / 400 * 400), .int ((nI (re.length + 1)) - 1)])) = M86
    have h87 : M86 (o + 1) = some (.inl (0, 2400, .inl arr)) := by rw [← eM86, j_up_ne _ _ (by omega)]; exact h84
    have h89 : M86 o = some (.inr (3, [.ref (o + 1), .int ((nI (fi + 1)) - (nI (fi + 1)) / 400 * 400), .int ((nI (re.length + 1)) - 1)])) := by rw [← eM86]; exact j_up_self _ _ _
    refine j_iconst X dX3_dropFirst_33 (v := 1) (by decide) ?_
    exact j_zret X hlk hr (by omega) (by omega) (by decide) dX3_dropFirst_34 ⟨rfl, rfl, ⟨(fi + 1) % 400, arr, by rw [h89, ln_rem (show fi + 1 < 2 ^ 31 by omega), nI_pred], h87, Nat.mod_lt _ (by decide), by omega, fun i hi => by have := hl (i + 1) (by show i + 1 < re.length + 1; omega); rw [List.getElem?_cons_succ] at this; rw [this, show ((fi + 1) % 400 + i) % 400 = (fi + (i + 1)) % 400 by omega]⟩, fun q hq => by rw [← eM86, j_up_ne _ _ (by omega), ← eM82, j_up_ne _ _ (by omega)]⟩
  · skip
    exact absurd c81 (nI_ne0 (n := re.length + 1) (by omega) (by omega))
