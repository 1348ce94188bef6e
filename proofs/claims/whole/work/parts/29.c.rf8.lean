set_option maxHeartbeats 800000 in
set_option maxRecDepth 100000 in
theorem c_X5_passAB (l : Launch) (D : va_G) {ty : jT} {cA : ClassId} (hI : ty[0]? = some (cA, .int)) (b0 : Nat) {M : jM} {n m : Nat} {w sl la sp rm ln mA mB lt pr tl tk : Int32} {A B : List Ev} {qu : List Rec} (h : RF M m w sl la sp rm ln mA mB lt pr tl tk A B qu) (t : Int32) (hT : ¬ (-1000000000 ≤ t ∧ t ≤ 1000000000)) : Ct l D ty vwCl nwSQ b0 yX5_pass wsX5_pass 3 82 0 0 [.ref m, .int 0, .int t] M n (j_rd (.int (-2)) M n) := by
  obtain ⟨sm, my, gr, rc, ft, fk, fv, kp, mk, qa, hm, hr0, hk0, hk1, hm0, hm1, hlA, hlB, hlQ, hA, hB, hQ⟩ := id h
  have hm : M m = some (.inr (5, [.int w, .int sl, .int la, .int sp, .int rm, .int ln, .ref (m + 1), .ref (m + 2), .ref (m + 3), .ref (m + 4), .ref (m + 5), .ref (m + 6), .int (nI qu.length), .int lt, .int pr, .int tl, .int tk, .int sm, .int my, .int gr, .int rc])) := hm
  obtain ⟨h1, h2, h3, h4, h5, h6⟩ := id hr0
  refine j_start (cc := cX5_pass) (maxL := 6) (ret := (some .int)) (by decide) rfl [some (.ref m), some (.int 0), some (.int t), none, none, none] (Nat.le_of_ble_eq_true rfl) rfl ?_
  intro p e s m0 below meth c X hlk hr hnm
  refine j_iload_n X 2 dX5_pass_0 rfl rfl ?_
  refine j_callS X nwSQ_ok (As := [.int t]) (rest := []) rfl (c_X5_isTime l D hI b0 t) rfl gX5_pass_X5_isTime ddX5_isTime ⟨Nat.le_of_ble_eq_true rfl, Nat.le_of_ble_eq_true rfl⟩ (Nat.le_of_ble_eq_true rfl) rfl dX5_pass_1 ⟨(by show 0 + 0 ≤ 0; omega), (by show 0 + 0 ≤ 0; omega)⟩ (fun r1 M2 n3 hr4 => ?_)
  obtain ⟨rfl, rfl, rfl⟩ := hr4
  refine j_st (st := [.int (if -1000000000 ≤ t ∧ t ≤ 1000000000 then 1 else 0)]) rfl ?_
  refine j_if_ne X 10 dX5_pass_4 (by decide) (fun c5 => ?_) (fun c5 => ?_)
  · skip
    exact absurd (zo_ne.mp c5) hT
  · skip
    refine j_bipush X dX5_pass_7 (v := (-2)) (by decide) ?_
    exact j_iret X hlk hr (by omega) (by omega) dX5_pass_9 ⟨rfl, rfl, rfl⟩
set_option maxHeartbeats 800000 in
set_option maxRecDepth 100000 in
theorem c_X5_passAS (l : Launch) (D : va_G) {ty : jT} {cA : ClassId} (hI : ty[0]? = some (cA, .int)) (b0 : Nat) {M : jM} {n m : Nat} {w sl la sp rm ln mA mB lt pr tl tk : Int32} {A B : List Ev} {qu : List Rec} (h : RF M m w sl la sp rm ln mA mB lt pr tl tk A B qu) (t : Int32) (hT : (-1000000000 ≤ t ∧ t ≤ 1000000000)) (hS : t ≤ mA) : Ct l D ty vwCl nwSQ b0 yX5_pass wsX5_pass 3 82 0 0 [.ref m, .int 0, .int t] M n (j_rd (.int (-5)) M n) := by
  obtain ⟨sm, my, gr, rc, ft, fk, fv, kp, mk, qa, hm, hr0, hk0, hk1, hm0, hm1, hlA, hlB, hlQ, hA, hB, hQ⟩ := id h
  have hm : M m = some (.inr (5, [.int w, .int sl, .int la, .int sp, .int rm, .int ln, .ref (m + 1), .ref (m + 2), .ref (m + 3), .ref (m + 4), .ref (m + 5), .ref (m + 6), .int (nI qu.length), .int lt, .int pr, .int tl, .int tk, .int sm, .int my, .int gr, .int rc])) := hm
  obtain ⟨h1, h2, h3, h4, h5, h6⟩ := id hr0
  refine j_start (cc := cX5_pass) (maxL := 6) (ret := (some .int)) (by decide) rfl [some (.ref m), some (.int 0), some (.int t), none, none, none] (Nat.le_of_ble_eq_true rfl) rfl ?_
  intro p e s m0 below meth c X hlk hr hnm
  refine j_iload_n X 2 dX5_pass_0 rfl rfl ?_
  refine j_callS X nwSQ_ok (As := [.int t]) (rest := []) rfl (c_X5_isTime l D hI b0 t) rfl gX5_pass_X5_isTime ddX5_isTime ⟨Nat.le_of_ble_eq_true rfl, Nat.le_of_ble_eq_true rfl⟩ (Nat.le_of_ble_eq_true rfl) rfl dX5_pass_1 ⟨(by show 0 + 0 ≤ 0; omega), (by show 0 + 0 ≤ 0; omega)⟩ (fun r6 M7 n8 hr9 => ?_)
  obtain ⟨rfl, rfl, rfl⟩ := hr9
  refine j_st (st := [.int (if -1000000000 ≤ t ∧ t ≤ 1000000000 then 1 else 0)]) rfl ?_
  refine j_if_ne X 10 dX5_pass_4 (by decide) (fun c10 => ?_) (fun c10 => ?_)
  · skip
    refine j_iload_n X 2 dX5_pass_10 rfl rfl ?_
    refine j_aload_n X 0 dX5_pass_11 rfl rfl ?_
    refine j_get X hm rfl iwX5_pass_X5 10 (by decide) lkX5_pass_35 rfl dX5_pass_12 ?_
    refine j_iload_n X 1 dX5_pass_15 rfl rfl ?_
    refine j_iald X h5 hI (vp_in_nI (n := 0) (by decide) (by decide)) (v := mA) (hm0) dX5_pass_16 ?_
    refine j_icmp_gt X 23 dX5_pass_17 (by decide) (fun c11 => ?_) (fun c11 => ?_)
    · skip
      exact absurd hS (Int32.not_le.mpr c11)
    · skip
      refine j_bipush X dX5_pass_20 (v := (-5)) (by decide) ?_
      exact j_iret X hlk hr (by omega) (by omega) dX5_pass_22 ⟨rfl, rfl, rfl⟩
  · skip
    exact absurd hT (zo_eq.mp c10)
set_option maxHeartbeats 800000 in
set_option maxRecDepth 100000 in
theorem c_X5_passAF (l : Launch) (D : va_G) {ty : jT} {cA : ClassId} (hI : ty[0]? = some (cA, .int)) (b0 : Nat) {M : jM} {n m : Nat} {w sl la sp rm ln mA mB lt pr tl tk : Int32} {A B : List Ev} {qu : List Rec} (h : RF M m w sl la sp rm ln mA mB lt pr tl tk A B qu) (t : Int32) (hT : (-1000000000 ≤ t ∧ t ≤ 1000000000)) (hS : ¬ t ≤ mA) (hTA : ∀ e ∈ A, -1000000000 ≤ e.1.toInt ∧ e.1.toInt ≤ 1000000000) (hTB : ∀ e ∈ B, -1000000000 ≤ e.1.toInt ∧ e.1.toInt ≤ 1000000000) (hN : okN w sl) (h16 : w.toInt ≤ 16 * sl.toInt) (hla : 0 ≤ la.toInt ∧ la.toInt ≤ 1000000) {T U : List Grp} (hGL : GL w.toInt sl.toInt ((mn mA mB).toInt - la.toInt) A (T ++ U)) (hT1 : ∀ g ∈ T, g.1.toInt ≤ (mn t mB).toInt - la.toInt) (hU1 : ∀ g ∈ U, (mn t mB).toInt - la.toInt < g.1.toInt) (hF : ¬ nI (qu.length + T.length) ≤ ln) : Ct l D ty vwCl nwSQ b0 yX5_pass wsX5_pass 3 82 0 0 [.ref m, .int 0, .int t] M n (fun r M' n' => r = some (.int (-3)) ∧ n = n' ∧ RF M' m w sl la sp rm ln mA mB lt pr tl tk A B qu ∧ ∀ q, (q < m ∨ m + 6 < q) → M' q = M q) := by
  obtain ⟨sm, my, gr, rc, ft, fk, fv, kp, mk, qa, hm, hr0, hk0, hk1, hm0, hm1, hlA, hlB, hlQ, hA, hB, hQ⟩ := id h
  have hm : M m = some (.inr (5, [.int w, .int sl, .int la, .int sp, .int rm, .int ln, .ref (m + 1), .ref (m + 2), .ref (m + 3), .ref (m + 4), .ref (m + 5), .ref (m + 6), .int (nI qu.length), .int lt, .int pr, .int tl, .int tk, .int sm, .int my, .int gr, .int rc])) := hm
  obtain ⟨h1, h2, h3, h4, h5, h6⟩ := id hr0
  have hTt : okts ft A.length := fun i hi => hTA _ (List.mem_of_getElem? (hA i hi))
  have hv1 := i_rng (mn mA mB)
  have hv2 := i_rng (mn t mB)
  refine j_start (cc := cX5_pass) (maxL := 6) (ret := (some .int)) (by decide) rfl [some (.ref m), some (.int 0), some (.int t), none, none, none] (Nat.le_of_ble_eq_true rfl) rfl ?_
  intro p e s m0 below meth c X hlk hr hnm
  refine j_iload_n X 2 dX5_pass_0 rfl rfl ?_
  refine j_callS X nwSQ_ok (As := [.int t]) (rest := []) rfl (c_X5_isTime l D hI b0 t) rfl gX5_pass_X5_isTime ddX5_isTime ⟨Nat.le_of_ble_eq_true rfl, Nat.le_of_ble_eq_true rfl⟩ (Nat.le_of_ble_eq_true rfl) rfl dX5_pass_1 ⟨(by show 0 + 0 ≤ 0; omega), (by show 0 + 0 ≤ 0; omega)⟩ (fun r12 M13 n14 hr15 => ?_)
  obtain ⟨rfl, rfl, rfl⟩ := hr15
  refine j_st (st := [.int (if -1000000000 ≤ t ∧ t ≤ 1000000000 then 1 else 0)]) rfl ?_
  refine j_if_ne X 10 dX5_pass_4 (by decide) (fun c16 => ?_) (fun c16 => ?_)
  · skip
    refine j_iload_n X 2 dX5_pass_10 rfl rfl ?_
    refine j_aload_n X 0 dX5_pass_11 rfl rfl ?_
    refine j_get X hm rfl iwX5_pass_X5 10 (by decide) lkX5_pass_35 rfl dX5_pass_12 ?_
    refine j_iload_n X 1 dX5_pass_15 rfl rfl ?_
    refine j_iald X h5 hI (vp_in_nI (n := 0) (by decide) (by decide)) (v := mA) (hm0) dX5_pass_16 ?_
    refine j_icmp_gt X 23 dX5_pass_17 (by decide) (fun c17 => ?_) (fun c17 => ?_)
    · skip
      refine j_aload_n X 0 dX5_pass_23 rfl rfl ?_
      refine j_callV X nwSQ_ok (As := []) (rest := []) hm rfl rfl (c_X5_mark l D hI b0 hm ⟨h1, h2, h3, h4, h5, h6⟩) rfl gX5_pass_X5_mark ⟨rfl, ddX5_mark⟩ ⟨Nat.le_of_ble_eq_true rfl, Nat.le_of_ble_eq_true rfl⟩ (Nat.le_of_ble_eq_true rfl) rfl dX5_pass_24 ⟨(by show 0 + 0 ≤ 0; omega), (by show 0 + 0 ≤ 0; omega)⟩ (fun r18 M19 n20 hr21 => ?_)
      obtain ⟨rfl, rfl, rfl⟩ := hr21
      refine j_st (st := [.int (mn mA mB)]) (by rw [hm0, hm1]; rfl) ?_
      refine j_istore_n X 3 dX5_pass_27 rfl (by decide) rfl (L' := [some (.ref m), some (.int 0), some (.int t), some (.int (mn mA mB)), none, none]) rfl ?_
      refine j_aload_n X 0 dX5_pass_28 rfl rfl ?_
      refine j_get X hm rfl iwX5_pass_X5 10 (by decide) lkX5_pass_35 rfl dX5_pass_29 ?_
      refine j_iload_n X 1 dX5_pass_32 rfl rfl ?_
      refine j_iald X h5 hI (vp_in_nI (n := 0) (by decide) (by decide)) (v := mA) (hm0) dX5_pass_33 ?_
      refine j_istore X dX5_pass_34 (by decide) rfl (L' := [some (.ref m), some (.int 0), some (.int t), some (.int (mn mA mB)), some (.int mA), none]) rfl ?_
      refine j_aload_n X 0 dX5_pass_36 rfl rfl ?_
      refine j_get X hm rfl iwX5_pass_X5 10 (by decide) lkX5_pass_35 rfl dX5_pass_37 ?_
      refine j_iload_n X 1 dX5_pass_40 rfl rfl ?_
      refine j_iload_n X 2 dX5_pass_41 rfl rfl ?_
      refine j_iast X h5 hI (vp_in_nI (n := 0) (by decide) (by decide)) dX5_pass_42 ?_
      rw [show (0 : Int32).toNatClampNeg = 0 from by decide]
      generalize eM22 : j_up M (m + 5) (.inl (0, 2, .inl (upd mk 0 t))) = M22
      have h23 : M22 m = some (.inr (5, [.int w, .int sl, .int la, .int sp, .int rm, .int ln, .ref (m + 1), .ref (m + 2), .ref (m + 3), .ref (m + 4), .ref (m + 5), .ref (m + 6), .int (nI qu.length), .int lt, .int pr, .int tl, .int tk, .int sm, .int my, .int gr, .int rc])) := by rw [← eM22, j_up_ne _ _ (by omega)]; exact hm
      have h24 : M22 (m + 1) = some (.inl (0, 400, .inl ft)) := by rw [← eM22, j_up_ne _ _ (by omega)]; exact h1
      have h25 : M22 (m + 2) = some (.inl (0, 400, .inl fk)) := by rw [← eM22, j_up_ne _ _ (by omega)]; exact h2
      have h26 : M22 (m + 3) = some (.inl (0, 400, .inl fv)) := by rw [← eM22, j_up_ne _ _ (by omega)]; exact h3
      have h27 : M22 (m + 4) = some (.inl (0, 2, .inl kp)) := by rw [← eM22, j_up_ne _ _ (by omega)]; exact h4
      have h29 : M22 (m + 6) = some (.inl (0, 2400, .inl qa)) := by rw [← eM22, j_up_ne _ _ (by omega)]; exact h6
      have h30 : M22 (m + 5) = some (.inl (0, 2, .inl (upd mk 0 t))) := by rw [← eM22]; exact j_up_self _ _ _
      refine j_aload_n X 0 dX5_pass_43 rfl rfl ?_
      refine j_iload_n X 3 dX5_pass_44 rfl rfl ?_
      refine j_i2l X dX5_pass_45 ?_
      refine j_st (st := [.long (lI (mn mA mB).toInt), .ref m]) (by rw [l_of (mn mA mB)]) ?_
      refine j_aload_n X 0 dX5_pass_46 rfl rfl ?_
      refine j_callV X nwSQ_ok (As := []) (rest := [.long (lI (mn mA mB).toInt), .ref m]) h23 rfl rfl (c_X5_mark l D hI b0 h23 ⟨h24, h25, h26, h27, h30, h29⟩) rfl gX5_pass_X5_mark ⟨rfl, ddX5_mark⟩ ⟨Nat.le_of_ble_eq_true rfl, Nat.le_of_ble_eq_true rfl⟩ (Nat.le_of_ble_eq_true rfl) rfl dX5_pass_47 ⟨(by show 0 + 0 ≤ 0; omega), (by show 0 + 0 ≤ 0; omega)⟩ (fun r31 M32 n33 hr34 => ?_)
      obtain ⟨rfl, rfl, rfl⟩ := hr34
      refine j_st (st := [.int (mn t mB), .long (lI (mn mA mB).toInt), .ref m]) (by rw [(show mn ((upd mk 0 t) 0) ((upd mk 0 t) 1) = mn t mB from by rw [← hm1]; rfl)]; rfl) ?_
      refine j_i2l X dX5_pass_50 ?_
      refine j_st (st := [.long (lI (mn t mB).toInt), .long (lI (mn mA mB).toInt), .ref m]) (by rw [l_of (mn t mB)]) ?_
      refine j_iconst X dX5_pass_51 (v := 0) (by decide) ?_
      refine j_callV X nwSQ_ok (As := [.long (lI (mn mA mB).toInt), .long (lI (mn t mB).toInt), .int 0]) (rest := []) h23 rfl rfl (c_X5_go0 l D hI b0 (A := A) (qu := qu) (Gs := T ++ U) (T := T) (U := U) h23 ⟨h24, h25, h26, h27, h30, h29⟩ hk0 hlA hN h16 hla hTt hA hQ ⟨by omega, by omega⟩ ⟨by omega, by omega⟩ hGL rfl hT1 hU1) rfl gX5_pass_X5_goOver ⟨rfl, ddX5_goOver⟩ ⟨Nat.le_of_ble_eq_true rfl, Nat.le_of_ble_eq_true rfl⟩ (Nat.le_of_ble_eq_true rfl) rfl dX5_pass_52 ⟨(by show 0 + 0 ≤ 0; omega), (by show 0 + 0 ≤ 0; omega)⟩ (fun r35 M36 n37 hr38 => ?_)
      obtain ⟨rfl, rfl, s1, s2, s3, qb, hmg, hrg, hqb, hfg⟩ := hr38
      rw [hqb] at hrg
      refine j_st (st := [.int (nI (wc (-2147483648) T))]) rfl ?_
      have hmg : M36 m = some (.inr (5, [.int w, .int sl, .int la, .int sp, .int rm, .int ln, .ref (m + 1), .ref (m + 2), .ref (m + 3), .ref (m + 4), .ref (m + 5), .ref (m + 6), .int (nI qu.length), .int lt, .int pr, .int tl, .int tk, .int s1, .int s2, .int s3, .int (nI T.length)])) := hmg
      obtain ⟨p1, p2, p3, p4, p5, p6⟩ := id hrg
      refine j_istore X dX5_pass_55 (by decide) rfl (L' := [some (.ref m), some (.int 0), some (.int t), some (.int (mn mA mB)), some (.int mA), some (.int (nI (wc (-2147483648) T)))]) rfl ?_
      refine j_aload_n X 0 dX5_pass_57 rfl rfl ?_
      refine j_get X hmg rfl iwX5_pass_X5 12 (by decide) lkX5_pass_45 rfl dX5_pass_58 ?_
      refine j_aload_n X 0 dX5_pass_61 rfl rfl ?_
      refine j_get X hmg rfl iwX5_pass_X5 20 (by decide) lkX5_pass_118 rfl dX5_pass_62 ?_
      refine j_iadd X dX5_pass_65 ?_
      refine j_st (st := [.int (nI (qu.length + T.length))]) (by rw [show (nI qu.length) + (nI T.length) = nI (qu.length + T.length) from nI_add _ _]) ?_
      refine j_aload_n X 0 dX5_pass_66 rfl rfl ?_
      refine j_get X hmg rfl iwX5_pass_X5 5 (by decide) lkX5_pass_19 rfl dX5_pass_67 ?_
      refine j_icmp_le X 84 dX5_pass_70 (by decide) (fun c39 => ?_) (fun c39 => ?_)
      · skip
        exact absurd c39 hF
      · skip
        refine j_aload_n X 0 dX5_pass_73 rfl rfl ?_
        refine j_get X hmg rfl iwX5_pass_X5 10 (by decide) lkX5_pass_35 rfl dX5_pass_74 ?_
        refine j_iload_n X 1 dX5_pass_77 rfl rfl ?_
        refine j_iload X dX5_pass_78 rfl ?_
        refine j_iast X p5 hI (vp_in_nI (n := 0) (by decide) (by decide)) dX5_pass_80 ?_
        rw [show (0 : Int32).toNatClampNeg = 0 from by decide]
        generalize eM40 : j_up M36 (m + 5) (.inl (0, 2, .inl (upd (upd mk 0 t) 0 mA))) = M40
        have h41 : M40 m = some (.inr (5, [.int w, .int sl, .int la, .int sp, .int rm, .int ln, .ref (m + 1), .ref (m + 2), .ref (m + 3), .ref (m + 4), .ref (m + 5), .ref (m + 6), .int (nI qu.length), .int lt, .int pr, .int tl, .int tk, .int s1, .int s2, .int s3, .int (nI T.length)])) := by rw [← eM40, j_up_ne _ _ (by omega)]; exact hmg
        have h42 : M40 (m + 1) = some (.inl (0, 400, .inl ft)) := by rw [← eM40, j_up_ne _ _ (by omega)]; exact p1
        have h43 : M40 (m + 2) = some (.inl (0, 400, .inl fk)) := by rw [← eM40, j_up_ne _ _ (by omega)]; exact p2
        have h44 : M40 (m + 3) = some (.inl (0, 400, .inl fv)) := by rw [← eM40, j_up_ne _ _ (by omega)]; exact p3
        have h45 : M40 (m + 4) = some (.inl (0, 2, .inl kp)) := by rw [← eM40, j_up_ne _ _ (by omega)]; exact p4
        have h47 : M40 (m + 6) = some (.inl (0, 2400, .inl qa)) := by rw [← eM40, j_up_ne _ _ (by omega)]; exact p6
        have h48 : M40 (m + 5) = some (.inl (0, 2, .inl (upd (upd mk 0 t) 0 mA))) := by rw [← eM40]; exact j_up_self _ _ _
        refine j_bipush X dX5_pass_81 (v := (-3)) (by decide) ?_
        exact j_iret X hlk hr (by omega) (by omega) dX5_pass_83 ⟨rfl, rfl, ⟨_, _, _, _, _, _, _, _, _, _, h41, ⟨h42, h43, h44, h45, h48, h47⟩, hk0, hk1, rfl, hm1, hlA, hlB, hlQ, hA, hB, hQ⟩, fun q hq => by rw [← eM40, j_up_ne _ _ (by omega), hfg _ (by omega), ← eM22, j_up_ne _ _ (by omega)]⟩
    · skip
      exact absurd (Int32.not_le.mp hS) c17
  · skip
    exact absurd hT (zo_eq.mp c16)
set_option maxHeartbeats 800000 in
set_option maxRecDepth 100000 in
theorem c_X5_passAT (l : Launch) (D : va_G) {ty : jT} {cA : ClassId} (hI : ty[0]? = some (cA, .int)) (b0 : Nat) {M : jM} {n m : Nat} {w sl la sp rm ln mA mB lt pr tl tk : Int32} {A B : List Ev} {qu : List Rec} (h : RF M m w sl la sp rm ln mA mB lt pr tl tk A B qu) (t : Int32) (hT : (-1000000000 ≤ t ∧ t ≤ 1000000000)) (hS : ¬ t ≤ mA) (hTA : ∀ e ∈ A, -1000000000 ≤ e.1.toInt ∧ e.1.toInt ≤ 1000000000) (hTB : ∀ e ∈ B, -1000000000 ≤ e.1.toInt ∧ e.1.toInt ≤ 1000000000) (hN : okN w sl) (h16 : w.toInt ≤ 16 * sl.toInt) (hla : 0 ≤ la.toInt ∧ la.toInt ≤ 1000000) {T U : List Grp} (hGL : GL w.toInt sl.toInt ((mn mA mB).toInt - la.toInt) A (T ++ U)) (hT1 : ∀ g ∈ T, g.1.toInt ≤ (mn t mB).toInt - la.toInt) (hU1 : ∀ g ∈ U, (mn t mB).toInt - la.toInt < g.1.toInt) (hF : nI (qu.length + T.length) ≤ ln) (hq4 : qu.length + T.length ≤ 400) : Ct l D ty vwCl nwSQ b0 yX5_pass wsX5_pass 3 82 0 0 [.ref m, .int 0, .int t] M n (fun r M' n' => r = some (.int (nI (wc (-2147483648) T))) ∧ n = n' ∧ RF M' m w sl la sp rm ln t mB lt pr (tl + nI T.length) tk (A.filter (fun e : Ev => (kpA w.toInt sl.toInt la.toInt sp.toInt (mn t mB).toInt) e.1.toInt)) (B.filter (fun e : Ev => (kpB la.toInt sp.toInt (mn t mB).toInt) e.1.toInt)) (qu ++ T.map (fun g : Grp => ((1, g) : Rec))) ∧ ∀ q, (q < m ∨ m + 6 < q) → M' q = M q) := by
  obtain ⟨sm, my, gr, rc, ft, fk, fv, kp, mk, qa, hm, hr0, hk0, hk1, hm0, hm1, hlA, hlB, hlQ, hA, hB, hQ⟩ := id h
  have hm : M m = some (.inr (5, [.int w, .int sl, .int la, .int sp, .int rm, .int ln, .ref (m + 1), .ref (m + 2), .ref (m + 3), .ref (m + 4), .ref (m + 5), .ref (m + 6), .int (nI qu.length), .int lt, .int pr, .int tl, .int tk, .int sm, .int my, .int gr, .int rc])) := hm
  obtain ⟨h1, h2, h3, h4, h5, h6⟩ := id hr0
  have hTt : okts ft A.length := fun i hi => hTA _ (List.mem_of_getElem? (hA i hi))
  have hv1 := i_rng (mn mA mB)
  have hv2 := i_rng (mn t mB)
  refine j_start (cc := cX5_pass) (maxL := 6) (ret := (some .int)) (by decide) rfl [some (.ref m), some (.int 0), some (.int t), none, none, none] (Nat.le_of_ble_eq_true rfl) rfl ?_
  intro p e s m0 below meth c X hlk hr hnm
  refine j_iload_n X 2 dX5_pass_0 rfl rfl ?_
  refine j_callS X nwSQ_ok (As := [.int t]) (rest := []) rfl (c_X5_isTime l D hI b0 t) rfl gX5_pass_X5_isTime ddX5_isTime ⟨Nat.le_of_ble_eq_true rfl, Nat.le_of_ble_eq_true rfl⟩ (Nat.le_of_ble_eq_true rfl) rfl dX5_pass_1 ⟨(by show 0 + 0 ≤ 0; omega), (by show 0 + 0 ≤ 0; omega)⟩ (fun r49 M50 n51 hr52 => ?_)
  obtain ⟨rfl, rfl, rfl⟩ := hr52
  refine j_st (st := [.int (if -1000000000 ≤ t ∧ t ≤ 1000000000 then 1 else 0)]) rfl ?_
  refine j_if_ne X 10 dX5_pass_4 (by decide) (fun c53 => ?_) (fun c53 => ?_)
  · skip
    refine j_iload_n X 2 dX5_pass_10 rfl rfl ?_
    refine j_aload_n X 0 dX5_pass_11 rfl rfl ?_
    refine j_get X hm rfl iwX5_pass_X5 10 (by decide) lkX5_pass_35 rfl dX5_pass_12 ?_
    refine j_iload_n X 1 dX5_pass_15 rfl rfl ?_
    refine j_iald X h5 hI (vp_in_nI (n := 0) (by decide) (by decide)) (v := mA) (hm0) dX5_pass_16 ?_
    refine j_icmp_gt X 23 dX5_pass_17 (by decide) (fun c54 => ?_) (fun c54 => ?_)
    · skip
      refine j_aload_n X 0 dX5_pass_23 rfl rfl ?_
      refine j_callV X nwSQ_ok (As := []) (rest := []) hm rfl rfl (c_X5_mark l D hI b0 hm ⟨h1, h2, h3, h4, h5, h6⟩) rfl gX5_pass_X5_mark ⟨rfl, ddX5_mark⟩ ⟨Nat.le_of_ble_eq_true rfl, Nat.le_of_ble_eq_true rfl⟩ (Nat.le_of_ble_eq_true rfl) rfl dX5_pass_24 ⟨(by show 0 + 0 ≤ 0; omega), (by show 0 + 0 ≤ 0; omega)⟩ (fun r55 M56 n57 hr58 => ?_)
      obtain ⟨rfl, rfl, rfl⟩ := hr58
      refine j_st (st := [.int (mn mA mB)]) (by rw [hm0, hm1]; rfl) ?_
      refine j_istore_n X 3 dX5_pass_27 rfl (by decide) rfl (L' := [some (.ref m), some (.int 0), some (.int t), some (.int (mn mA mB)), none, none]) rfl ?_
      refine j_aload_n X 0 dX5_pass_28 rfl rfl ?_
      refine j_get X hm rfl iwX5_pass_X5 10 (by decide) lkX5_pass_35 rfl dX5_pass_29 ?_
      refine j_iload_n X 1 dX5_pass_32 rfl rfl ?_
      refine j_iald X h5 hI (vp_in_nI (n := 0) (by decide) (by decide)) (v := mA) (hm0) dX5_pass_33 ?_
      refine j_istore X dX5_pass_34 (by decide) rfl (L' := [some (.ref m), some (.int 0), some (.int t), some (.int (mn mA mB)), some (.int mA), none]) rfl ?_
      refine j_aload_n X 0 dX5_pass_36 rfl rfl ?_
      refine j_get X hm rfl iwX5_pass_X5 10 (by decide) lkX5_pass_35 rfl dX5_pass_37 ?_
      refine j_iload_n X 1 dX5_pass_40 rfl rfl ?_
      refine j_iload_n X 2 dX5_pass_41 rfl rfl ?_
      refine j_iast X h5 hI (vp_in_nI (n := 0) (by decide) (by decide)) dX5_pass_42 ?_
      rw [show (0 : Int32).toNatClampNeg = 0 from by decide]
      generalize eM59 : j_up M (m + 5) (.inl (0, 2, .inl (upd mk 0 t))) = M59
      have h60 : M59 m = some (.inr (5, [.int w, .int sl, .int la, .int sp, .int rm, .int ln, .ref (m + 1), .ref (m + 2), .ref (m + 3), .ref (m + 4), .ref (m + 5), .ref (m + 6), .int (nI qu.length), .int lt, .int pr, .int tl, .int tk, .int sm, .int my, .int gr, .int rc])) := by rw [← eM59, j_up_ne _ _ (by omega)]; exact hm
      have h61 : M59 (m + 1) = some (.inl (0, 400, .inl ft)) := by rw [← eM59, j_up_ne _ _ (by omega)]; exact h1
      have h62 : M59 (m + 2) = some (.inl (0, 400, .inl fk)) := by rw [← eM59, j_up_ne _ _ (by omega)]; exact h2
      have h63 : M59 (m + 3) = some (.inl (0, 400, .inl fv)) := by rw [← eM59, j_up_ne _ _ (by omega)]; exact h3
      have h64 : M59 (m + 4) = some (.inl (0, 2, .inl kp)) := by rw [← eM59, j_up_ne _ _ (by omega)]; exact h4
      have h66 : M59 (m + 6) = some (.inl (0, 2400, .inl qa)) := by rw [← eM59, j_up_ne _ _ (by omega)]; exact h6
      have h67 : M59 (m + 5) = some (.inl (0, 2, .inl (upd mk 0 t))) := by rw [← eM59]; exact j_up_self _ _ _
      refine j_aload_n X 0 dX5_pass_43 rfl rfl ?_
      refine j_iload_n X 3 dX5_pass_44 rfl rfl ?_
      refine j_i2l X dX5_pass_45 ?_
      refine j_st (st := [.long (lI (mn mA mB).toInt), .ref m]) (by rw [l_of (mn mA mB)]) ?_
      refine j_aload_n X 0 dX5_pass_46 rfl rfl ?_
      refine j_callV X nwSQ_ok (As := []) (rest := [.long (lI (mn mA mB).toInt), .ref m]) h60 rfl rfl (c_X5_mark l D hI b0 h60 ⟨h61, h62, h63, h64, h67, h66⟩) rfl gX5_pass_X5_mark ⟨rfl, ddX5_mark⟩ ⟨Nat.le_of_ble_eq_true rfl, Nat.le_of_ble_eq_true rfl⟩ (Nat.le_of_ble_eq_true rfl) rfl dX5_pass_47 ⟨(by show 0 + 0 ≤ 0; omega), (by show 0 + 0 ≤ 0; omega)⟩ (fun r68 M69 n70 hr71 => ?_)
      obtain ⟨rfl, rfl, rfl⟩ := hr71
      refine j_st (st := [.int (mn t mB), .long (lI (mn mA mB).toInt), .ref m]) (by rw [(show mn ((upd mk 0 t) 0) ((upd mk 0 t) 1) = mn t mB from by rw [← hm1]; rfl)]; rfl) ?_
      refine j_i2l X dX5_pass_50 ?_
      refine j_st (st := [.long (lI (mn t mB).toInt), .long (lI (mn mA mB).toInt), .ref m]) (by rw [l_of (mn t mB)]) ?_
      refine j_iconst X dX5_pass_51 (v := 0) (by decide) ?_
      refine j_callV X nwSQ_ok (As := [.long (lI (mn mA mB).toInt), .long (lI (mn t mB).toInt), .int 0]) (rest := []) h60 rfl rfl (c_X5_go0 l D hI b0 (A := A) (qu := qu) (Gs := T ++ U) (T := T) (U := U) h60 ⟨h61, h62, h63, h64, h67, h66⟩ hk0 hlA hN h16 hla hTt hA hQ ⟨by omega, by omega⟩ ⟨by omega, by omega⟩ hGL rfl hT1 hU1) rfl gX5_pass_X5_goOver ⟨rfl, ddX5_goOver⟩ ⟨Nat.le_of_ble_eq_true rfl, Nat.le_of_ble_eq_true rfl⟩ (Nat.le_of_ble_eq_true rfl) rfl dX5_pass_52 ⟨(by show 0 + 0 ≤ 0; omega), (by show 0 + 0 ≤ 0; omega)⟩ (fun r72 M73 n74 hr75 => ?_)
      obtain ⟨rfl, rfl, s1, s2, s3, qb, hmg, hrg, hqb, hfg⟩ := hr75
      rw [hqb] at hrg
      refine j_st (st := [.int (nI (wc (-2147483648) T))]) rfl ?_
      have hmg : M73 m = some (.inr (5, [.int w, .int sl, .int la, .int sp, .int rm, .int ln, .ref (m + 1), .ref (m + 2), .ref (m + 3), .ref (m + 4), .ref (m + 5), .ref (m + 6), .int (nI qu.length), .int lt, .int pr, .int tl, .int tk, .int s1, .int s2, .int s3, .int (nI T.length)])) := hmg
      obtain ⟨p1, p2, p3, p4, p5, p6⟩ := id hrg
      refine j_istore X dX5_pass_55 (by decide) rfl (L' := [some (.ref m), some (.int 0), some (.int t), some (.int (mn mA mB)), some (.int mA), some (.int (nI (wc (-2147483648) T)))]) rfl ?_
      refine j_aload_n X 0 dX5_pass_57 rfl rfl ?_
      refine j_get X hmg rfl iwX5_pass_X5 12 (by decide) lkX5_pass_45 rfl dX5_pass_58 ?_
      refine j_aload_n X 0 dX5_pass_61 rfl rfl ?_
      refine j_get X hmg rfl iwX5_pass_X5 20 (by decide) lkX5_pass_118 rfl dX5_pass_62 ?_
      refine j_iadd X dX5_pass_65 ?_
      refine j_st (st := [.int (nI (qu.length + T.length))]) (by rw [show (nI qu.length) + (nI T.length) = nI (qu.length + T.length) from nI_add _ _]) ?_
      refine j_aload_n X 0 dX5_pass_66 rfl rfl ?_
      refine j_get X hmg rfl iwX5_pass_X5 5 (by decide) lkX5_pass_19 rfl dX5_pass_67 ?_
      refine j_icmp_le X 84 dX5_pass_70 (by decide) (fun c76 => ?_) (fun c76 => ?_)
      · skip
        refine j_aload_n X 0 dX5_pass_84 rfl rfl ?_
        refine j_iload_n X 3 dX5_pass_85 rfl rfl ?_
        refine j_i2l X dX5_pass_86 ?_
        refine j_st (st := [.long (lI (mn mA mB).toInt), .ref m]) (by rw [l_of (mn mA mB)]) ?_
        refine j_aload_n X 0 dX5_pass_87 rfl rfl ?_
        refine j_callV X nwSQ_ok (As := []) (rest := [.long (lI (mn mA mB).toInt), .ref m]) hmg rfl rfl (c_X5_mark l D hI b0 hmg ⟨p1, p2, p3, p4, p5, p6⟩) rfl gX5_pass_X5_mark ⟨rfl, ddX5_mark⟩ ⟨Nat.le_of_ble_eq_true rfl, Nat.le_of_ble_eq_true rfl⟩ (Nat.le_of_ble_eq_true rfl) rfl dX5_pass_88 ⟨(by show 0 + 0 ≤ 0; omega), (by show 0 + 0 ≤ 0; omega)⟩ (fun r77 M78 n79 hr80 => ?_)
        obtain ⟨rfl, rfl, rfl⟩ := hr80
        refine j_st (st := [.int (mn t mB), .long (lI (mn mA mB).toInt), .ref m]) (by rw [(show mn ((upd mk 0 t) 0) ((upd mk 0 t) 1) = mn t mB from by rw [← hm1]; rfl)]; rfl) ?_
        refine j_i2l X dX5_pass_91 ?_
        refine j_st (st := [.long (lI (mn t mB).toInt), .long (lI (mn mA mB).toInt), .ref m]) (by rw [l_of (mn t mB)]) ?_
        refine j_iconst X dX5_pass_92 (v := 1) (by decide) ?_
        refine j_callV X nwSQ_ok (As := [.long (lI (mn mA mB).toInt), .long (lI (mn t mB).toInt), .int 1]) (rest := []) hmg rfl rfl (c_X5_go1 l D hI b0 (A := A) (qu := qu) (Gs := T ++ U) (T := T) (U := U) hmg ⟨p1, p2, p3, p4, p5, p6⟩ hk0 hlA hN h16 hla hTt hA hQ ⟨by omega, by omega⟩ ⟨by omega, by omega⟩ hGL rfl hT1 hU1 hq4) rfl gX5_pass_X5_goOver ⟨rfl, ddX5_goOver⟩ ⟨Nat.le_of_ble_eq_true rfl, Nat.le_of_ble_eq_true rfl⟩ (Nat.le_of_ble_eq_true rfl) rfl dX5_pass_93 ⟨(by show 0 + 0 ≤ 0; omega), (by show 0 + 0 ≤ 0; omega)⟩ (fun r81 M82 n83 hr84 => ?_)
        obtain ⟨rfl, rfl, r1, r2, r3, qc, hmh, hrh, hqc, hfh⟩ := hr84
        refine j_st (st := [.int (nI (wc (-2147483648) T))]) rfl ?_
        have hmh : M82 m = some (.inr (5, [.int w, .int sl, .int la, .int sp, .int rm, .int ln, .ref (m + 1), .ref (m + 2), .ref (m + 3), .ref (m + 4), .ref (m + 5), .ref (m + 6), .int (nI (qu ++ T.map (fun g : Grp => ((1, g) : Rec))).length), .int lt, .int pr, .int tl, .int tk, .int r1, .int r2, .int r3, .int (nI T.length)])) := hmh
        obtain ⟨u1, u2, u3, u4, u5, u6⟩ := id hrh
        refine j_istore X dX5_pass_96 (by decide) rfl (L' := [some (.ref m), some (.int 0), some (.int t), some (.int (mn mA mB)), some (.int mA), some (.int (nI (wc (-2147483648) T)))]) rfl ?_
        refine j_aload_n X 0 dX5_pass_98 rfl rfl ?_
        refine j_dup X dX5_pass_99 rfl ?_
        refine j_get X hmh rfl iwX5_pass_X5 15 (by decide) lkX5_pass_54 rfl dX5_pass_100 ?_
        refine j_aload_n X 0 dX5_pass_103 rfl rfl ?_
        refine j_get X hmh rfl iwX5_pass_X5 20 (by decide) lkX5_pass_118 rfl dX5_pass_104 ?_
        refine j_iadd X dX5_pass_107 ?_
        refine j_put X hmh rfl iwX5_pass_X5 tyX5 tyX5_ok nmX5 15 (by decide) lkX5_pass_54 rfl rfl rfl (Nat.le_of_ble_eq_true rfl) (fs' := [.int w, .int sl, .int la, .int sp, .int rm, .int ln, .ref (m + 1), .ref (m + 2), .ref (m + 3), .ref (m + 4), .ref (m + 5), .ref (m + 6), .int (nI (qu ++ T.map (fun g : Grp => ((1, g) : Rec))).length), .int lt, .int pr, .int (tl + (nI T.length)), .int tk, .int r1, .int r2, .int r3, .int (nI T.length)]) rfl dX5_pass_108 ?_
        generalize eM85 : j_up M82 m (.inr (5, [.int w, .int sl, .int la, .int sp, .int rm, .int ln, .ref (m + 1), .ref (m + 2), .ref (m + 3), .ref (m + 4), .ref (m + 5), .ref (m + 6), .int (nI (qu ++ T.map (fun g : Grp => ((1, g) : Rec))).length), .int lt, .int pr, .int (tl + (nI T.length)), .int tk, .int r1, .int r2, .int r3, .int (nI T.length)])) = M85
        have h87 : M85 (m + 1) = some (.inl (0, 400, .inl ft)) := by rw [← eM85, j_up_ne _ _ (by omega)]; exact u1
        have h88 : M85 (m + 2) = some (.inl (0, 400, .inl fk)) := by rw [← eM85, j_up_ne _ _ (by omega)]; exact u2
        have h89 : M85 (m + 3) = some (.inl (0, 400, .inl fv)) := by rw [← eM85, j_up_ne _ _ (by omega)]; exact u3
        have h90 : M85 (m + 4) = some (.inl (0, 2, .inl kp)) := by rw [← eM85, j_up_ne _ _ (by omega)]; exact u4
        have h91 : M85 (m + 5) = some (.inl (0, 2, .inl (upd mk 0 t))) := by rw [← eM85, j_up_ne _ _ (by omega)]; exact u5
        have h92 : M85 (m + 6) = some (.inl (0, 2400, .inl qc)) := by rw [← eM85, j_up_ne _ _ (by omega)]; exact u6
        have h93 : M85 m = some (.inr (5, [.int w, .int sl, .int la, .int sp, .int rm, .int ln, .ref (m + 1), .ref (m + 2), .ref (m + 3), .ref (m + 4), .ref (m + 5), .ref (m + 6), .int (nI (qu ++ T.map (fun g : Grp => ((1, g) : Rec))).length), .int lt, .int pr, .int (tl + (nI T.length)), .int tk, .int r1, .int r2, .int r3, .int (nI T.length)])) := by rw [← eM85]; exact j_up_self _ _ _
        refine j_aload_n X 0 dX5_pass_111 rfl rfl ?_
        refine j_iconst X dX5_pass_112 (v := 0) (by decide) ?_
        refine j_callV X nwSQ_ok (As := [.int 0]) (rest := []) h93 rfl rfl (c_X5_sweepA l D hI b0 (le := A) h93 ⟨h87, h88, h89, h90, h91, h92⟩ hk0 hlA (fun i hi => by rw [Nat.zero_add]; exact hA i hi) hN hTA) rfl gX5_pass_X5_sweep ⟨rfl, ddX5_sweep⟩ ⟨Nat.le_of_ble_eq_true rfl, Nat.le_of_ble_eq_true rfl⟩ (Nat.le_of_ble_eq_true rfl) rfl dX5_pass_113 ⟨(by show 0 + 0 ≤ 0; omega), (by show 0 + 0 ≤ 0; omega)⟩ (fun r94 M95 n96 hr97 => ?_)
        rw [(show mn ((upd mk 0 t) 0) ((upd mk 0 t) 1) = mn t mB from by rw [← hm1]; rfl)] at hr97
        obtain ⟨rfl, rfl, gt, gk, gv, hms, hrs, hls, hou, hfs⟩ := hr97
        refine j_st (st := []) rfl ?_
        obtain ⟨v1, v2, v3, v4, v5, v6⟩ := id hrs
        have hms : M95 m = some (.inr (5, [.int w, .int sl, .int la, .int sp, .int rm, .int ln, .ref (m + 1), .ref (m + 2), .ref (m + 3), .ref (m + 4), .ref (m + 5), .ref (m + 6), .int (nI (qu ++ T.map (fun g : Grp => ((1, g) : Rec))).length), .int lt, .int pr, .int (tl + (nI T.length)), .int tk, .int r1, .int r2, .int r3, .int (nI T.length)])) := hms
        refine j_aload_n X 0 dX5_pass_116 rfl rfl ?_
        refine j_iconst X dX5_pass_117 (v := 1) (by decide) ?_
        refine j_callV X nwSQ_ok (As := [.int 1]) (rest := []) hms rfl rfl (c_X5_sweepB l D hI b0 (le := B) hms ⟨v1, v2, v3, v4, v5, v6⟩ hk1 hlB (fun i hi => by rw [(hou _ (Or.inr (by omega))).1, (hou _ (Or.inr (by omega))).2.1, (hou _ (Or.inr (by omega))).2.2]; exact hB i hi) hN hTB) rfl gX5_pass_X5_sweep ⟨rfl, ddX5_sweep⟩ ⟨Nat.le_of_ble_eq_true rfl, Nat.le_of_ble_eq_true rfl⟩ (Nat.le_of_ble_eq_true rfl) rfl dX5_pass_118 ⟨(by show 0 + 0 ≤ 0; omega), (by show 0 + 0 ≤ 0; omega)⟩ (fun r98 M99 n100 hr101 => ?_)
        rw [(show mn ((upd mk 0 t) 0) ((upd mk 0 t) 1) = mn t mB from by rw [← hm1]; rfl)] at hr101
        obtain ⟨rfl, rfl, ht, hk, hv, hmt, hrt, hlt, hov, hft⟩ := hr101
        refine j_st (st := []) rfl ?_
        obtain ⟨x1, x2, x3, x4, x5, x6⟩ := id hrt
        have hmt : M99 m = some (.inr (5, [.int w, .int sl, .int la, .int sp, .int rm, .int ln, .ref (m + 1), .ref (m + 2), .ref (m + 3), .ref (m + 4), .ref (m + 5), .ref (m + 6), .int (nI (qu ++ T.map (fun g : Grp => ((1, g) : Rec))).length), .int lt, .int pr, .int (tl + (nI T.length)), .int tk, .int r1, .int r2, .int r3, .int (nI T.length)])) := hmt
        refine j_iload X dX5_pass_121 rfl ?_
        exact j_iret X hlk hr (by omega) (by omega) dX5_pass_123 ⟨rfl, rfl, ⟨_, _, _, _, _, _, _, _, _, _, hmt, ⟨x1, x2, x3, x4, x5, x6⟩, rfl, rfl, rfl, hm1, Nat.le_trans (List.length_filter_le _ _) hlA, Nat.le_trans (List.length_filter_le _ _) hlB, by rw [List.length_append, List.length_map]; exact hq4, fun i hi => by have hi2 := Nat.lt_of_lt_of_le hi (List.length_filter_le _ _); have h9 := hls i hi; rw [Nat.zero_add] at h9; rw [(hov i (Or.inl (by omega))).1, (hov i (Or.inl (by omega))).2.1, (hov i (Or.inl (by omega))).2.2]; exact h9, hlt, hqc⟩, fun q hq => by rw [hft _ (by omega), hfs _ (by omega), ← eM85, j_up_ne _ _ (by omega), hfh _ (by omega), hfg _ (by omega), ← eM59, j_up_ne _ _ (by omega)]⟩
      · skip
        exact absurd hF c76
    · skip
      exact absurd (Int32.not_le.mp hS) c54
  · skip
    exact absurd hT (zo_eq.mp c53)
set_option maxHeartbeats 800000 in
set_option maxRecDepth 100000 in
theorem c_X5_mkAB (l : Launch) (D : va_G) {ty : jT} {cA : ClassId} (hI : ty[0]? = some (cA, .int)) (b0 : Nat) {M : jM} {n m : Nat} {w sl la sp rm ln mA mB lt pr tl tk : Int32} {A B : List Ev} {qu : List Rec} (h : RF M m w sl la sp rm ln mA mB lt pr tl tk A B qu) (t : Int32) (hT : ¬ (-1000000000 ≤ t ∧ t ≤ 1000000000)) : Ct l D ty vwCl nwSQ b0 yX5_markA wsX5_markA 4 107 0 0 [.ref m, .int t] M n (j_rd (.int (-2)) M n) := by
  obtain ⟨sm, my, gr, rc, ft, fk, fv, kp, mk, qa, hm, hr0, hk0, hk1, hm0, hm1, hlA, hlB, hlQ, hA, hB, hQ⟩ := id h
  have hm : M m = some (.inr (5, [.int w, .int sl, .int la, .int sp, .int rm, .int ln, .ref (m + 1), .ref (m + 2), .ref (m + 3), .ref (m + 4), .ref (m + 5), .ref (m + 6), .int (nI qu.length), .int lt, .int pr, .int tl, .int tk, .int sm, .int my, .int gr, .int rc])) := hm
  obtain ⟨h1, h2, h3, h4, h5, h6⟩ := id hr0
  refine j_start (cc := cX5_markA) (maxL := 2) (ret := (some .int)) (by decide) rfl [some (.ref m), some (.int t)] (Nat.le_of_ble_eq_true rfl) rfl ?_
  intro p e s m0 below meth c X hlk hr hnm
  refine j_aload_n X 0 dX5_markA_0 rfl rfl ?_
  refine j_iconst X dX5_markA_1 (v := 0) (by decide) ?_
  refine j_iload_n X 1 dX5_markA_2 rfl rfl ?_
  refine j_callV X nwSQ_ok (As := [.int 0, .int t]) (rest := []) hm rfl rfl (c_X5_passAB l D hI b0 h t hT) rfl gX5_markA_X5_pass ⟨rfl, ddX5_pass⟩ ⟨Nat.le_of_ble_eq_true rfl, Nat.le_of_ble_eq_true rfl⟩ (Nat.le_of_ble_eq_true rfl) rfl dX5_markA_3 ⟨(by show 0 + 0 ≤ 0; omega), (by show 0 + 0 ≤ 0; omega)⟩ (fun r102 M103 n104 hr105 => ?_)
  obtain ⟨rfl, rfl, rfl⟩ := hr105
  refine j_st (st := [.int (-2)]) rfl ?_
  exact j_iret X hlk hr (by omega) (by omega) dX5_markA_6 ⟨rfl, rfl, rfl⟩
set_option maxHeartbeats 800000 in
set_option maxRecDepth 100000 in
theorem c_X5_mkAS (l : Launch) (D : va_G) {ty : jT} {cA : ClassId} (hI : ty[0]? = some (cA, .int)) (b0 : Nat) {M : jM} {n m : Nat} {w sl la sp rm ln mA mB lt pr tl tk : Int32} {A B : List Ev} {qu : List Rec} (h : RF M m w sl la sp rm ln mA mB lt pr tl tk A B qu) (t : Int32) (hT : (-1000000000 ≤ t ∧ t ≤ 1000000000)) (hS : t ≤ mA) : Ct l D ty vwCl nwSQ b0 yX5_markA wsX5_markA 4 107 0 0 [.ref m, .int t] M n (j_rd (.int (-5)) M n) := by
  obtain ⟨sm, my, gr, rc, ft, fk, fv, kp, mk, qa, hm, hr0, hk0, hk1, hm0, hm1, hlA, hlB, hlQ, hA, hB, hQ⟩ := id h
  have hm : M m = some (.inr (5, [.int w, .int sl, .int la, .int sp, .int rm, .int ln, .ref (m + 1), .ref (m + 2), .ref (m + 3), .ref (m + 4), .ref (m + 5), .ref (m + 6), .int (nI qu.length), .int lt, .int pr, .int tl, .int tk, .int sm, .int my, .int gr, .int rc])) := hm
  obtain ⟨h1, h2, h3, h4, h5, h6⟩ := id hr0
  refine j_start (cc := cX5_markA) (maxL := 2) (ret := (some .int)) (by decide) rfl [some (.ref m), some (.int t)] (Nat.le_of_ble_eq_true rfl) rfl ?_
  intro p e s m0 below meth c X hlk hr hnm
  refine j_aload_n X 0 dX5_markA_0 rfl rfl ?_
  refine j_iconst X dX5_markA_1 (v := 0) (by decide) ?_
  refine j_iload_n X 1 dX5_markA_2 rfl rfl ?_
  refine j_callV X nwSQ_ok (As := [.int 0, .int t]) (rest := []) hm rfl rfl (c_X5_passAS l D hI b0 h t hT hS) rfl gX5_markA_X5_pass ⟨rfl, ddX5_pass⟩ ⟨Nat.le_of_ble_eq_true rfl, Nat.le_of_ble_eq_true rfl⟩ (Nat.le_of_ble_eq_true rfl) rfl dX5_markA_3 ⟨(by show 0 + 0 ≤ 0; omega), (by show 0 + 0 ≤ 0; omega)⟩ (fun r106 M107 n108 hr109 => ?_)
  obtain ⟨rfl, rfl, rfl⟩ := hr109
  refine j_st (st := [.int (-5)]) rfl ?_
  exact j_iret X hlk hr (by omega) (by omega) dX5_markA_6 ⟨rfl, rfl, rfl⟩
set_option maxHeartbeats 800000 in
set_option maxRecDepth 100000 in
theorem c_X5_mkAF (l : Launch) (D : va_G) {ty : jT} {cA : ClassId} (hI : ty[0]? = some (cA, .int)) (b0 : Nat) {M : jM} {n m : Nat} {w sl la sp rm ln mA mB lt pr tl tk : Int32} {A B : List Ev} {qu : List Rec} (h : RF M m w sl la sp rm ln mA mB lt pr tl tk A B qu) (t : Int32) (hT : (-1000000000 ≤ t ∧ t ≤ 1000000000)) (hS : ¬ t ≤ mA) (hTA : ∀ e ∈ A, -1000000000 ≤ e.1.toInt ∧ e.1.toInt ≤ 1000000000) (hTB : ∀ e ∈ B, -1000000000 ≤ e.1.toInt ∧ e.1.toInt ≤ 1000000000) (hN : okN w sl) (h16 : w.toInt ≤ 16 * sl.toInt) (hla : 0 ≤ la.toInt ∧ la.toInt ≤ 1000000) {T U : List Grp} (hGL : GL w.toInt sl.toInt ((mn mA mB).toInt - la.toInt) A (T ++ U)) (hT1 : ∀ g ∈ T, g.1.toInt ≤ (mn t mB).toInt - la.toInt) (hU1 : ∀ g ∈ U, (mn t mB).toInt - la.toInt < g.1.toInt) (hF : ¬ nI (qu.length + T.length) ≤ ln) : Ct l D ty vwCl nwSQ b0 yX5_markA wsX5_markA 4 107 0 0 [.ref m, .int t] M n (fun r M' n' => r = some (.int (-3)) ∧ n = n' ∧ RF M' m w sl la sp rm ln mA mB lt pr tl tk A B qu ∧ ∀ q, (q < m ∨ m + 6 < q) → M' q = M q) := by
  obtain ⟨sm, my, gr, rc, ft, fk, fv, kp, mk, qa, hm, hr0, hk0, hk1, hm0, hm1, hlA, hlB, hlQ, hA, hB, hQ⟩ := id h
  have hm : M m = some (.inr (5, [.int w, .int sl, .int la, .int sp, .int rm, .int ln, .ref (m + 1), .ref (m + 2), .ref (m + 3), .ref (m + 4), .ref (m + 5), .ref (m + 6), .int (nI qu.length), .int lt, .int pr, .int tl, .int tk, .int sm, .int my, .int gr, .int rc])) := hm
  obtain ⟨h1, h2, h3, h4, h5, h6⟩ := id hr0
  refine j_start (cc := cX5_markA) (maxL := 2) (ret := (some .int)) (by decide) rfl [some (.ref m), some (.int t)] (Nat.le_of_ble_eq_true rfl) rfl ?_
  intro p e s m0 below meth c X hlk hr hnm
  refine j_aload_n X 0 dX5_markA_0 rfl rfl ?_
  refine j_iconst X dX5_markA_1 (v := 0) (by decide) ?_
  refine j_iload_n X 1 dX5_markA_2 rfl rfl ?_
  refine j_callV X nwSQ_ok (As := [.int 0, .int t]) (rest := []) hm rfl rfl (c_X5_passAF l D hI b0 h t hT hS hTA hTB hN h16 hla hGL hT1 hU1 hF) rfl gX5_markA_X5_pass ⟨rfl, ddX5_pass⟩ ⟨Nat.le_of_ble_eq_true rfl, Nat.le_of_ble_eq_true rfl⟩ (Nat.le_of_ble_eq_true rfl) rfl dX5_markA_3 ⟨(by show 0 + 0 ≤ 0; omega), (by show 0 + 0 ≤ 0; omega)⟩ (fun r110 M111 n112 hr113 => ?_)
  obtain ⟨rfl, rfl, hRF, hFr⟩ := hr113
  refine j_st (st := [.int (-3)]) rfl ?_
  exact j_iret X hlk hr (by omega) (by omega) dX5_markA_6 ⟨rfl, rfl, hRF, hFr⟩
set_option maxHeartbeats 800000 in
set_option maxRecDepth 100000 in
theorem c_X5_mkAT (l : Launch) (D : va_G) {ty : jT} {cA : ClassId} (hI : ty[0]? = some (cA, .int)) (b0 : Nat) {M : jM} {n m : Nat} {w sl la sp rm ln mA mB lt pr tl tk : Int32} {A B : List Ev} {qu : List Rec} (h : RF M m w sl la sp rm ln mA mB lt pr tl tk A B qu) (t : Int32) (hT : (-1000000000 ≤ t ∧ t ≤ 1000000000)) (hS : ¬ t ≤ mA) (hTA : ∀ e ∈ A, -1000000000 ≤ e.1.toInt ∧ e.1.toInt ≤ 1000000000) (hTB : ∀ e ∈ B, -1000000000 ≤ e.1.toInt ∧ e.1.toInt ≤ 1000000000) (hN : okN w sl) (h16 : w.toInt ≤ 16 * sl.toInt) (hla : 0 ≤ la.toInt ∧ la.toInt ≤ 1000000) {T U : List Grp} (hGL : GL w.toInt sl.toInt ((mn mA mB).toInt - la.toInt) A (T ++ U)) (hT1 : ∀ g ∈ T, g.1.toInt ≤ (mn t mB).toInt - la.toInt) (hU1 : ∀ g ∈ U, (mn t mB).toInt - la.toInt < g.1.toInt) (hF : nI (qu.length + T.length) ≤ ln) (hq4 : qu.length + T.length ≤ 400) : Ct l D ty vwCl nwSQ b0 yX5_markA wsX5_markA 4 107 0 0 [.ref m, .int t] M n (fun r M' n' => r = some (.int (nI (wc (-2147483648) T))) ∧ n = n' ∧ RF M' m w sl la sp rm ln t mB lt pr (tl + nI T.length) tk (A.filter (fun e : Ev => (kpA w.toInt sl.toInt la.toInt sp.toInt (mn t mB).toInt) e.1.toInt)) (B.filter (fun e : Ev => (kpB la.toInt sp.toInt (mn t mB).toInt) e.1.toInt)) (qu ++ T.map (fun g : Grp => ((1, g) : Rec))) ∧ ∀ q, (q < m ∨ m + 6 < q) → M' q = M q) := by
  obtain ⟨sm, my, gr, rc, ft, fk, fv, kp, mk, qa, hm, hr0, hk0, hk1, hm0, hm1, hlA, hlB, hlQ, hA, hB, hQ⟩ := id h
  have hm : M m = some (.inr (5, [.int w, .int sl, .int la, .int sp, .int rm, .int ln, .ref (m + 1), .ref (m + 2), .ref (m + 3), .ref (m + 4), .ref (m + 5), .ref (m + 6), .int (nI qu.length), .int lt, .int pr, .int tl, .int tk, .int sm, .int my, .int gr, .int rc])) := hm
  obtain ⟨h1, h2, h3, h4, h5, h6⟩ := id hr0
  refine j_start (cc := cX5_markA) (maxL := 2) (ret := (some .int)) (by decide) rfl [some (.ref m), some (.int t)] (Nat.le_of_ble_eq_true rfl) rfl ?_
  intro p e s m0 below meth c X hlk hr hnm
  refine j_aload_n X 0 dX5_markA_0 rfl rfl ?_
  refine j_iconst X dX5_markA_1 (v := 0) (by decide) ?_
  refine j_iload_n X 1 dX5_markA_2 rfl rfl ?_
  refine j_callV X nwSQ_ok (As := [.int 0, .int t]) (rest := []) hm rfl rfl (c_X5_passAT l D hI b0 h t hT hS hTA hTB hN h16 hla hGL hT1 hU1 hF hq4) rfl gX5_markA_X5_pass ⟨rfl, ddX5_pass⟩ ⟨Nat.le_of_ble_eq_true rfl, Nat.le_of_ble_eq_true rfl⟩ (Nat.le_of_ble_eq_true rfl) rfl dX5_markA_3 ⟨(by show 0 + 0 ≤ 0; omega), (by show 0 + 0 ≤ 0; omega)⟩ (fun r114 M115 n116 hr117 => ?_)
  obtain ⟨rfl, rfl, hRF, hFr⟩ := hr117
  refine j_st (st := [.int (nI (wc (-2147483648) T))]) rfl ?_
  exact j_iret X hlk hr (by omega) (by omega) dX5_markA_6 ⟨rfl, rfl, hRF, hFr⟩
set_option maxHeartbeats 800000 in
set_option maxRecDepth 100000 in
theorem c_X5_passBB (l : Launch) (D : va_G) {ty : jT} {cA : ClassId} (hI : ty[0]? = some (cA, .int)) (b0 : Nat) {M : jM} {n m : Nat} {w sl la sp rm ln mA mB lt pr tl tk : Int32} {A B : List Ev} {qu : List Rec} (h : RF M m w sl la sp rm ln mA mB lt pr tl tk A B qu) (t : Int32) (hT : ¬ (-1000000000 ≤ t ∧ t ≤ 1000000000)) : Ct l D ty vwCl nwSQ b0 yX5_pass wsX5_pass 3 82 0 0 [.ref m, .int 1, .int t] M n (j_rd (.int (-2)) M n) := by
  obtain ⟨sm, my, gr, rc, ft, fk, fv, kp, mk, qa, hm, hr0, hk0, hk1, hm0, hm1, hlA, hlB, hlQ, hA, hB, hQ⟩ := id h
  have hm : M m = some (.inr (5, [.int w, .int sl, .int la, .int sp, .int rm, .int ln, .ref (m + 1), .ref (m + 2), .ref (m + 3), .ref (m + 4), .ref (m + 5), .ref (m + 6), .int (nI qu.length), .int lt, .int pr, .int tl, .int tk, .int sm, .int my, .int gr, .int rc])) := hm
  obtain ⟨h1, h2, h3, h4, h5, h6⟩ := id hr0
  refine j_start (cc := cX5_pass) (maxL := 6) (ret := (some .int)) (by decide) rfl [some (.ref m), some (.int 1), some (.int t), none, none, none] (Nat.le_of_ble_eq_true rfl) rfl ?_
  intro p e s m0 below meth c X hlk hr hnm
  refine j_iload_n X 2 dX5_pass_0 rfl rfl ?_
  refine j_callS X nwSQ_ok (As := [.int t]) (rest := []) rfl (c_X5_isTime l D hI b0 t) rfl gX5_pass_X5_isTime ddX5_isTime ⟨Nat.le_of_ble_eq_true rfl, Nat.le_of_ble_eq_true rfl⟩ (Nat.le_of_ble_eq_true rfl) rfl dX5_pass_1 ⟨(by show 0 + 0 ≤ 0; omega), (by show 0 + 0 ≤ 0; omega)⟩ (fun r118 M119 n120 hr121 => ?_)
  obtain ⟨rfl, rfl, rfl⟩ := hr121
  refine j_st (st := [.int (if -1000000000 ≤ t ∧ t ≤ 1000000000 then 1 else 0)]) rfl ?_
  refine j_if_ne X 10 dX5_pass_4 (by decide) (fun c122 => ?_) (fun c122 => ?_)
  · skip
    exact absurd (zo_ne.mp c122) hT
  · skip
    refine j_bipush X dX5_pass_7 (v := (-2)) (by decide) ?_
    exact j_iret X hlk hr (by omega) (by omega) dX5_pass_9 ⟨rfl, rfl, rfl⟩
set_option maxHeartbeats 800000 in
set_option maxRecDepth 100000 in
theorem c_X5_passBS (l : Launch) (D : va_G) {ty : jT} {cA : ClassId} (hI : ty[0]? = some (cA, .int)) (b0 : Nat) {M : jM} {n m : Nat} {w sl la sp rm ln mA mB lt pr tl tk : Int32} {A B : List Ev} {qu : List Rec} (h : RF M m w sl la sp rm ln mA mB lt pr tl tk A B qu) (t : Int32) (hT : (-1000000000 ≤ t ∧ t ≤ 1000000000)) (hS : t ≤ mB) : Ct l D ty vwCl nwSQ b0 yX5_pass wsX5_pass 3 82 0 0 [.ref m, .int 1, .int t] M n (j_rd (.int (-5)) M n) := by
  obtain ⟨sm, my, gr, rc, ft, fk, fv, kp, mk, qa, hm, hr0, hk0, hk1, hm0, hm1, hlA, hlB, hlQ, hA, hB, hQ⟩ := id h
  have hm : M m = some (.inr (5, [.int w, .int sl, .int la, .int sp, .int rm, .int ln, .ref (m + 1), .ref (m + 2), .ref (m + 3), .ref (m + 4), .ref (m + 5), .ref (m + 6), .int (nI qu.length), .int lt, .int pr, .int tl, .int tk, .int sm, .int my, .int gr, .int rc])) := hm
  obtain ⟨h1, h2, h3, h4, h5, h6⟩ := id hr0
  refine j_start (cc := cX5_pass) (maxL := 6) (ret := (some .int)) (by decide) rfl [some (.ref m), some (.int 1), some (.int t), none, none, none] (Nat.le_of_ble_eq_true rfl) rfl ?_
  intro p e s m0 below meth c X hlk hr hnm
  refine j_iload_n X 2 dX5_pass_0 rfl rfl ?_
  refine j_callS X nwSQ_ok (As := [.int t]) (rest := []) rfl (c_X5_isTime l D hI b0 t) rfl gX5_pass_X5_isTime ddX5_isTime ⟨Nat.le_of_ble_eq_true rfl, Nat.le_of_ble_eq_true rfl⟩ (Nat.le_of_ble_eq_true rfl) rfl dX5_pass_1 ⟨(by show 0 + 0 ≤ 0; omega), (by show 0 + 0 ≤ 0; omega)⟩ (fun r123 M124 n125 hr126 => ?_)
  obtain ⟨rfl, rfl, rfl⟩ := hr126
  refine j_st (st := [.int (if -1000000000 ≤ t ∧ t ≤ 1000000000 then 1 else 0)]) rfl ?_
  refine j_if_ne X 10 dX5_pass_4 (by decide) (fun c127 => ?_) (fun c127 => ?_)
  · skip
    refine j_iload_n X 2 dX5_pass_10 rfl rfl ?_
    refine j_aload_n X 0 dX5_pass_11 rfl rfl ?_
    refine j_get X hm rfl iwX5_pass_X5 10 (by decide) lkX5_pass_35 rfl dX5_pass_12 ?_
    refine j_iload_n X 1 dX5_pass_15 rfl rfl ?_
    refine j_iald X h5 hI (vp_in_nI (n := 1) (by decide) (by decide)) (v := mB) (hm1) dX5_pass_16 ?_
    refine j_icmp_gt X 23 dX5_pass_17 (by decide) (fun c128 => ?_) (fun c128 => ?_)
    · skip
      exact absurd hS (Int32.not_le.mpr c128)
    · skip
      refine j_bipush X dX5_pass_20 (v := (-5)) (by decide) ?_
      exact j_iret X hlk hr (by omega) (by omega) dX5_pass_22 ⟨rfl, rfl, rfl⟩
  · skip
    exact absurd hT (zo_eq.mp c127)
set_option maxHeartbeats 800000 in
set_option maxRecDepth 100000 in
theorem c_X5_passBF (l : Launch) (D : va_G) {ty : jT} {cA : ClassId} (hI : ty[0]? = some (cA, .int)) (b0 : Nat) {M : jM} {n m : Nat} {w sl la sp rm ln mA mB lt pr tl tk : Int32} {A B : List Ev} {qu : List Rec} (h : RF M m w sl la sp rm ln mA mB lt pr tl tk A B qu) (t : Int32) (hT : (-1000000000 ≤ t ∧ t ≤ 1000000000)) (hS : ¬ t ≤ mB) (hTA : ∀ e ∈ A, -1000000000 ≤ e.1.toInt ∧ e.1.toInt ≤ 1000000000) (hTB : ∀ e ∈ B, -1000000000 ≤ e.1.toInt ∧ e.1.toInt ≤ 1000000000) (hN : okN w sl) (h16 : w.toInt ≤ 16 * sl.toInt) (hla : 0 ≤ la.toInt ∧ la.toInt ≤ 1000000) {T U : List Grp} (hGL : GL w.toInt sl.toInt ((mn mA mB).toInt - la.toInt) A (T ++ U)) (hT1 : ∀ g ∈ T, g.1.toInt ≤ (mn mA t).toInt - la.toInt) (hU1 : ∀ g ∈ U, (mn mA t).toInt - la.toInt < g.1.toInt) (hF : ¬ nI (qu.length + T.length) ≤ ln) : Ct l D ty vwCl nwSQ b0 yX5_pass wsX5_pass 3 82 0 0 [.ref m, .int 1, .int t] M n (fun r M' n' => r = some (.int (-3)) ∧ n = n' ∧ RF M' m w sl la sp rm ln mA mB lt pr tl tk A B qu ∧ ∀ q, (q < m ∨ m + 6 < q) → M' q = M q) := by
  obtain ⟨sm, my, gr, rc, ft, fk, fv, kp, mk, qa, hm, hr0, hk0, hk1, hm0, hm1, hlA, hlB, hlQ, hA, hB, hQ⟩ := id h
  have hm : M m = some (.inr (5, [.int w, .int sl, .int la, .int sp, .int rm, .int ln, .ref (m + 1), .ref (m + 2), .ref (m + 3), .ref (m + 4), .ref (m + 5), .ref (m + 6), .int (nI qu.length), .int lt, .int pr, .int tl, .int tk, .int sm, .int my, .int gr, .int rc])) := hm
  obtain ⟨h1, h2, h3, h4, h5, h6⟩ := id hr0
  have hTt : okts ft A.length := fun i hi => hTA _ (List.mem_of_getElem? (hA i hi))
  have hv1 := i_rng (mn mA mB)
  have hv2 := i_rng (mn mA t)
  refine j_start (cc := cX5_pass) (maxL := 6) (ret := (some .int)) (by decide) rfl [some (.ref m), some (.int 1), some (.int t), none, none, none] (Nat.le_of_ble_eq_true rfl) rfl ?_
  intro p e s m0 below meth c X hlk hr hnm
  refine j_iload_n X 2 dX5_pass_0 rfl rfl ?_
  refine j_callS X nwSQ_ok (As := [.int t]) (rest := []) rfl (c_X5_isTime l D hI b0 t) rfl gX5_pass_X5_isTime ddX5_isTime ⟨Nat.le_of_ble_eq_true rfl, Nat.le_of_ble_eq_true rfl⟩ (Nat.le_of_ble_eq_true rfl) rfl dX5_pass_1 ⟨(by show 0 + 0 ≤ 0; omega), (by show 0 + 0 ≤ 0; omega)⟩ (fun r129 M130 n131 hr132 => ?_)
  obtain ⟨rfl, rfl, rfl⟩ := hr132
  refine j_st (st := [.int (if -1000000000 ≤ t ∧ t ≤ 1000000000 then 1 else 0)]) rfl ?_
  refine j_if_ne X 10 dX5_pass_4 (by decide) (fun c133 => ?_) (fun c133 => ?_)
  · skip
    refine j_iload_n X 2 dX5_pass_10 rfl rfl ?_
    refine j_aload_n X 0 dX5_pass_11 rfl rfl ?_
    refine j_get X hm rfl iwX5_pass_X5 10 (by decide) lkX5_pass_35 rfl dX5_pass_12 ?_
    refine j_iload_n X 1 dX5_pass_15 rfl rfl ?_
    refine j_iald X h5 hI (vp_in_nI (n := 1) (by decide) (by decide)) (v := mB) (hm1) dX5_pass_16 ?_
    refine j_icmp_gt X 23 dX5_pass_17 (by decide) (fun c134 => ?_) (fun c134 => ?_)
    · skip
      refine j_aload_n X 0 dX5_pass_23 rfl rfl ?_
      refine j_callV X nwSQ_ok (As := []) (rest := []) hm rfl rfl (c_X5_mark l D hI b0 hm ⟨h1, h2, h3, h4, h5, h6⟩) rfl gX5_pass_X5_mark ⟨rfl, ddX5_mark⟩ ⟨Nat.le_of_ble_eq_true rfl, Nat.le_of_ble_eq_true rfl⟩ (Nat.le_of_ble_eq_true rfl) rfl dX5_pass_24 ⟨(by show 0 + 0 ≤ 0; omega), (by show 0 + 0 ≤ 0; omega)⟩ (fun r135 M136 n137 hr138 => ?_)
      obtain ⟨rfl, rfl, rfl⟩ := hr138
      refine j_st (st := [.int (mn mA mB)]) (by rw [hm0, hm1]; rfl) ?_
      refine j_istore_n X 3 dX5_pass_27 rfl (by decide) rfl (L' := [some (.ref m), some (.int 1), some (.int t), some (.int (mn mA mB)), none, none]) rfl ?_
      refine j_aload_n X 0 dX5_pass_28 rfl rfl ?_
      refine j_get X hm rfl iwX5_pass_X5 10 (by decide) lkX5_pass_35 rfl dX5_pass_29 ?_
      refine j_iload_n X 1 dX5_pass_32 rfl rfl ?_
      refine j_iald X h5 hI (vp_in_nI (n := 1) (by decide) (by decide)) (v := mB) (hm1) dX5_pass_33 ?_
      refine j_istore X dX5_pass_34 (by decide) rfl (L' := [some (.ref m), some (.int 1), some (.int t), some (.int (mn mA mB)), some (.int mB), none]) rfl ?_
      refine j_aload_n X 0 dX5_pass_36 rfl rfl ?_
      refine j_get X hm rfl iwX5_pass_X5 10 (by decide) lkX5_pass_35 rfl dX5_pass_37 ?_
      refine j_iload_n X 1 dX5_pass_40 rfl rfl ?_
      refine j_iload_n X 2 dX5_pass_41 rfl rfl ?_
      refine j_iast X h5 hI (vp_in_nI (n := 1) (by decide) (by decide)) dX5_pass_42 ?_
      rw [show (1 : Int32).toNatClampNeg = 1 from by decide]
      generalize eM139 : j_up M (m + 5) (.inl (0, 2, .inl (upd mk 1 t))) = M139
      have h140 : M139 m = some (.inr (5, [.int w, .int sl, .int la, .int sp, .int rm, .int ln, .ref (m + 1), .ref (m + 2), .ref (m + 3), .ref (m + 4), .ref (m + 5), .ref (m + 6), .int (nI qu.length), .int lt, .int pr, .int tl, .int tk, .int sm, .int my, .int gr, .int rc])) := by rw [← eM139, j_up_ne _ _ (by omega)]; exact hm
      have h141 : M139 (m + 1) = some (.inl (0, 400, .inl ft)) := by rw [← eM139, j_up_ne _ _ (by omega)]; exact h1
      have h142 : M139 (m + 2) = some (.inl (0, 400, .inl fk)) := by rw [← eM139, j_up_ne _ _ (by omega)]; exact h2
      have h143 : M139 (m + 3) = some (.inl (0, 400, .inl fv)) := by rw [← eM139, j_up_ne _ _ (by omega)]; exact h3
      have h144 : M139 (m + 4) = some (.inl (0, 2, .inl kp)) := by rw [← eM139, j_up_ne _ _ (by omega)]; exact h4
      have h146 : M139 (m + 6) = some (.inl (0, 2400, .inl qa)) := by rw [← eM139, j_up_ne _ _ (by omega)]; exact h6
      have h147 : M139 (m + 5) = some (.inl (0, 2, .inl (upd mk 1 t))) := by rw [← eM139]; exact j_up_self _ _ _
      refine j_aload_n X 0 dX5_pass_43 rfl rfl ?_
      refine j_iload_n X 3 dX5_pass_44 rfl rfl ?_
      refine j_i2l X dX5_pass_45 ?_
      refine j_st (st := [.long (lI (mn mA mB).toInt), .ref m]) (by rw [l_of (mn mA mB)]) ?_
      refine j_aload_n X 0 dX5_pass_46 rfl rfl ?_
      refine j_callV X nwSQ_ok (As := []) (rest := [.long (lI (mn mA mB).toInt), .ref m]) h140 rfl rfl (c_X5_mark l D hI b0 h140 ⟨h141, h142, h143, h144, h147, h146⟩) rfl gX5_pass_X5_mark ⟨rfl, ddX5_mark⟩ ⟨Nat.le_of_ble_eq_true rfl, Nat.le_of_ble_eq_true rfl⟩ (Nat.le_of_ble_eq_true rfl) rfl dX5_pass_47 ⟨(by show 0 + 0 ≤ 0; omega), (by show 0 + 0 ≤ 0; omega)⟩ (fun r148 M149 n150 hr151 => ?_)
      obtain ⟨rfl, rfl, rfl⟩ := hr151
      refine j_st (st := [.int (mn mA t), .long (lI (mn mA mB).toInt), .ref m]) (by rw [(show mn ((upd mk 1 t) 0) ((upd mk 1 t) 1) = mn mA t from by rw [← hm0]; rfl)]; rfl) ?_
      refine j_i2l X dX5_pass_50 ?_
      refine j_st (st := [.long (lI (mn mA t).toInt), .long (lI (mn mA mB).toInt), .ref m]) (by rw [l_of (mn mA t)]) ?_
      refine j_iconst X dX5_pass_51 (v := 0) (by decide) ?_
      refine j_callV X nwSQ_ok (As := [.long (lI (mn mA mB).toInt), .long (lI (mn mA t).toInt), .int 0]) (rest := []) h140 rfl rfl (c_X5_go0 l D hI b0 (A := A) (qu := qu) (Gs := T ++ U) (T := T) (U := U) h140 ⟨h141, h142, h143, h144, h147, h146⟩ hk0 hlA hN h16 hla hTt hA hQ ⟨by omega, by omega⟩ ⟨by omega, by omega⟩ hGL rfl hT1 hU1) rfl gX5_pass_X5_goOver ⟨rfl, ddX5_goOver⟩ ⟨Nat.le_of_ble_eq_true rfl, Nat.le_of_ble_eq_true rfl⟩ (Nat.le_of_ble_eq_true rfl) rfl dX5_pass_52 ⟨(by show 0 + 0 ≤ 0; omega), (by show 0 + 0 ≤ 0; omega)⟩ (fun r152 M153 n154 hr155 => ?_)
      obtain ⟨rfl, rfl, s1, s2, s3, qb, hmg, hrg, hqb, hfg⟩ := hr155
      rw [hqb] at hrg
      refine j_st (st := [.int (nI (wc (-2147483648) T))]) rfl ?_
      have hmg : M153 m = some (.inr (5, [.int w, .int sl, .int la, .int sp, .int rm, .int ln, .ref (m + 1), .ref (m + 2), .ref (m + 3), .ref (m + 4), .ref (m + 5), .ref (m + 6), .int (nI qu.length), .int lt, .int pr, .int tl, .int tk, .int s1, .int s2, .int s3, .int (nI T.length)])) := hmg
      obtain ⟨p1, p2, p3, p4, p5, p6⟩ := id hrg
      refine j_istore X dX5_pass_55 (by decide) rfl (L' := [some (.ref m), some (.int 1), some (.int t), some (.int (mn mA mB)), some (.int mB), some (.int (nI (wc (-2147483648) T)))]) rfl ?_
      refine j_aload_n X 0 dX5_pass_57 rfl rfl ?_
      refine j_get X hmg rfl iwX5_pass_X5 12 (by decide) lkX5_pass_45 rfl dX5_pass_58 ?_
      refine j_aload_n X 0 dX5_pass_61 rfl rfl ?_
      refine j_get X hmg rfl iwX5_pass_X5 20 (by decide) lkX5_pass_118 rfl dX5_pass_62 ?_
      refine j_iadd X dX5_pass_65 ?_
      refine j_st (st := [.int (nI (qu.length + T.length))]) (by rw [show (nI qu.length) + (nI T.length) = nI (qu.length + T.length) from nI_add _ _]) ?_
      refine j_aload_n X 0 dX5_pass_66 rfl rfl ?_
      refine j_get X hmg rfl iwX5_pass_X5 5 (by decide) lkX5_pass_19 rfl dX5_pass_67 ?_
      refine j_icmp_le X 84 dX5_pass_70 (by decide) (fun c156 => ?_) (fun c156 => ?_)
      · skip
        exact absurd c156 hF
      · skip
        refine j_aload_n X 0 dX5_pass_73 rfl rfl ?_
        refine j_get X hmg rfl iwX5_pass_X5 10 (by decide) lkX5_pass_35 rfl dX5_pass_74 ?_
        refine j_iload_n X 1 dX5_pass_77 rfl rfl ?_
        refine j_iload X dX5_pass_78 rfl ?_
        refine j_iast X p5 hI (vp_in_nI (n := 1) (by decide) (by decide)) dX5_pass_80 ?_
        rw [show (1 : Int32).toNatClampNeg = 1 from by decide]
        generalize eM157 : j_up M153 (m + 5) (.inl (0, 2, .inl (upd (upd mk 1 t) 1 mB))) = M157
        have h158 : M157 m = some (.inr (5, [.int w, .int sl, .int la, .int sp, .int rm, .int ln, .ref (m + 1), .ref (m + 2), .ref (m + 3), .ref (m + 4), .ref (m + 5), .ref (m + 6), .int (nI qu.length), .int lt, .int pr, .int tl, .int tk, .int s1, .int s2, .int s3, .int (nI T.length)])) := by rw [← eM157, j_up_ne _ _ (by omega)]; exact hmg
        have h159 : M157 (m + 1) = some (.inl (0, 400, .inl ft)) := by rw [← eM157, j_up_ne _ _ (by omega)]; exact p1
        have h160 : M157 (m + 2) = some (.inl (0, 400, .inl fk)) := by rw [← eM157, j_up_ne _ _ (by omega)]; exact p2
        have h161 : M157 (m + 3) = some (.inl (0, 400, .inl fv)) := by rw [← eM157, j_up_ne _ _ (by omega)]; exact p3
        have h162 : M157 (m + 4) = some (.inl (0, 2, .inl kp)) := by rw [← eM157, j_up_ne _ _ (by omega)]; exact p4
        have h164 : M157 (m + 6) = some (.inl (0, 2400, .inl qa)) := by rw [← eM157, j_up_ne _ _ (by omega)]; exact p6
        have h165 : M157 (m + 5) = some (.inl (0, 2, .inl (upd (upd mk 1 t) 1 mB))) := by rw [← eM157]; exact j_up_self _ _ _
        refine j_bipush X dX5_pass_81 (v := (-3)) (by decide) ?_
        exact j_iret X hlk hr (by omega) (by omega) dX5_pass_83 ⟨rfl, rfl, ⟨_, _, _, _, _, _, _, _, _, _, h158, ⟨h159, h160, h161, h162, h165, h164⟩, hk0, hk1, hm0, rfl, hlA, hlB, hlQ, hA, hB, hQ⟩, fun q hq => by rw [← eM157, j_up_ne _ _ (by omega), hfg _ (by omega), ← eM139, j_up_ne _ _ (by omega)]⟩
    · skip
      exact absurd (Int32.not_le.mp hS) c134
  · skip
    exact absurd hT (zo_eq.mp c133)
set_option maxHeartbeats 800000 in
set_option maxRecDepth 100000 in
theorem c_X5_passBT (l : Launch) (D : va_G) {ty : jT} {cA : ClassId} (hI : ty[0]? = some (cA, .int)) (b0 : Nat) {M : jM} {n m : Nat} {w sl la sp rm ln mA mB lt pr tl tk : Int32} {A B : List Ev} {qu : List Rec} (h : RF M m w sl la sp rm ln mA mB lt pr tl tk A B qu) (t : Int32) (hT : (-1000000000 ≤ t ∧ t ≤ 1000000000)) (hS : ¬ t ≤ mB) (hTA : ∀ e ∈ A, -1000000000 ≤ e.1.toInt ∧ e.1.toInt ≤ 1000000000) (hTB : ∀ e ∈ B, -1000000000 ≤ e.1.toInt ∧ e.1.toInt ≤ 1000000000) (hN : okN w sl) (h16 : w.toInt ≤ 16 * sl.toInt) (hla : 0 ≤ la.toInt ∧ la.toInt ≤ 1000000) {T U : List Grp} (hGL : GL w.toInt sl.toInt ((mn mA mB).toInt - la.toInt) A (T ++ U)) (hT1 : ∀ g ∈ T, g.1.toInt ≤ (mn mA t).toInt - la.toInt) (hU1 : ∀ g ∈ U, (mn mA t).toInt - la.toInt < g.1.toInt) (hF : nI (qu.length + T.length) ≤ ln) (hq4 : qu.length + T.length ≤ 400) : Ct l D ty vwCl nwSQ b0 yX5_pass wsX5_pass 3 82 0 0 [.ref m, .int 1, .int t] M n (fun r M' n' => r = some (.int (nI (wc (-2147483648) T))) ∧ n = n' ∧ RF M' m w sl la sp rm ln mA t lt pr (tl + nI T.length) tk (A.filter (fun e : Ev => (kpA w.toInt sl.toInt la.toInt sp.toInt (mn mA t).toInt) e.1.toInt)) (B.filter (fun e : Ev => (kpB la.toInt sp.toInt (mn mA t).toInt) e.1.toInt)) (qu ++ T.map (fun g : Grp => ((1, g) : Rec))) ∧ ∀ q, (q < m ∨ m + 6 < q) → M' q = M q) := by
  obtain ⟨sm, my, gr, rc, ft, fk, fv, kp, mk, qa, hm, hr0, hk0, hk1, hm0, hm1, hlA, hlB, hlQ, hA, hB, hQ⟩ := id h
  have hm : M m = some (.inr (5, [.int w, .int sl, .int la, .int sp, .int rm, .int ln, .ref (m + 1), .ref (m + 2), .ref (m + 3), .ref (m + 4), .ref (m + 5), .ref (m + 6), .int (nI qu.length), .int lt, .int pr, .int tl, .int tk, .int sm, .int my, .int gr, .int rc])) := hm
  obtain ⟨h1, h2, h3, h4, h5, h6⟩ := id hr0
  have hTt : okts ft A.length := fun i hi => hTA _ (List.mem_of_getElem? (hA i hi))
  have hv1 := i_rng (mn mA mB)
  have hv2 := i_rng (mn mA t)
  refine j_start (cc := cX5_pass) (maxL := 6) (ret := (some .int)) (by decide) rfl [some (.ref m), some (.int 1), some (.int t), none, none, none] (Nat.le_of_ble_eq_true rfl) rfl ?_
  intro p e s m0 below meth c X hlk hr hnm
  refine j_iload_n X 2 dX5_pass_0 rfl rfl ?_
  refine j_callS X nwSQ_ok (As := [.int t]) (rest := []) rfl (c_X5_isTime l D hI b0 t) rfl gX5_pass_X5_isTime ddX5_isTime ⟨Nat.le_of_ble_eq_true rfl, Nat.le_of_ble_eq_true rfl⟩ (Nat.le_of_ble_eq_true rfl) rfl dX5_pass_1 ⟨(by show 0 + 0 ≤ 0; omega), (by show 0 + 0 ≤ 0; omega)⟩ (fun r166 M167 n168 hr169 => ?_)
  obtain ⟨rfl, rfl, rfl⟩ := hr169
  refine j_st (st := [.int (if -1000000000 ≤ t ∧ t ≤ 1000000000 then 1 else 0)]) rfl ?_
  refine j_if_ne X 10 dX5_pass_4 (by decide) (fun c170 => ?_) (fun c170 => ?_)
  · skip
    refine j_iload_n X 2 dX5_pass_10 rfl rfl ?_
    refine j_aload_n X 0 dX5_pass_11 rfl rfl ?_
    refine j_get X hm rfl iwX5_pass_X5 10 (by decide) lkX5_pass_35 rfl dX5_pass_12 ?_
    refine j_iload_n X 1 dX5_pass_15 rfl rfl ?_
    refine j_iald X h5 hI (vp_in_nI (n := 1) (by decide) (by decide)) (v := mB) (hm1) dX5_pass_16 ?_
    refine j_icmp_gt X 23 dX5_pass_17 (by decide) (fun c171 => ?_) (fun c171 => ?_)
    · skip
      refine j_aload_n X 0 dX5_pass_23 rfl rfl ?_
      refine j_callV X nwSQ_ok (As := []) (rest := []) hm rfl rfl (c_X5_mark l D hI b0 hm ⟨h1, h2, h3, h4, h5, h6⟩) rfl gX5_pass_X5_mark ⟨rfl, ddX5_mark⟩ ⟨Nat.le_of_ble_eq_true rfl, Nat.le_of_ble_eq_true rfl⟩ (Nat.le_of_ble_eq_true rfl) rfl dX5_pass_24 ⟨(by show 0 + 0 ≤ 0; omega), (by show 0 + 0 ≤ 0; omega)⟩ (fun r172 M173 n174 hr175 => ?_)
      obtain ⟨rfl, rfl, rfl⟩ := hr175
      refine j_st (st := [.int (mn mA mB)]) (by rw [hm0, hm1]; rfl) ?_
      refine j_istore_n X 3 dX5_pass_27 rfl (by decide) rfl (L' := [some (.ref m), some (.int 1), some (.int t), some (.int (mn mA mB)), none, none]) rfl ?_
      refine j_aload_n X 0 dX5_pass_28 rfl rfl ?_
      refine j_get X hm rfl iwX5_pass_X5 10 (by decide) lkX5_pass_35 rfl dX5_pass_29 ?_
      refine j_iload_n X 1 dX5_pass_32 rfl rfl ?_
      refine j_iald X h5 hI (vp_in_nI (n := 1) (by decide) (by decide)) (v := mB) (hm1) dX5_pass_33 ?_
      refine j_istore X dX5_pass_34 (by decide) rfl (L' := [some (.ref m), some (.int 1), some (.int t), some (.int (mn mA mB)), some (.int mB), none]) rfl ?_
      refine j_aload_n X 0 dX5_pass_36 rfl rfl ?_
      refine j_get X hm rfl iwX5_pass_X5 10 (by decide) lkX5_pass_35 rfl dX5_pass_37 ?_
      refine j_iload_n X 1 dX5_pass_40 rfl rfl ?_
      refine j_iload_n X 2 dX5_pass_41 rfl rfl ?_
      refine j_iast X h5 hI (vp_in_nI (n := 1) (by decide) (by decide)) dX5_pass_42 ?_
      rw [show (1 : Int32).toNatClampNeg = 1 from by decide]
      generalize eM176 : j_up M (m + 5) (.inl (0, 2, .inl (upd mk 1 t))) = M176
      have h177 : M176 m = some (.inr (5, [.int w, .int sl, .int la, .int sp, .int rm, .int ln, .ref (m + 1), .ref (m + 2), .ref (m + 3), .ref (m + 4), .ref (m + 5), .ref (m + 6), .int (nI qu.length), .int lt, .int pr, .int tl, .int tk, .int sm, .int my, .int gr, .int rc])) := by rw [← eM176, j_up_ne _ _ (by omega)]; exact hm
      have h178 : M176 (m + 1) = some (.inl (0, 400, .inl ft)) := by rw [← eM176, j_up_ne _ _ (by omega)]; exact h1
      have h179 : M176 (m + 2) = some (.inl (0, 400, .inl fk)) := by rw [← eM176, j_up_ne _ _ (by omega)]; exact h2
      have h180 : M176 (m + 3) = some (.inl (0, 400, .inl fv)) := by rw [← eM176, j_up_ne _ _ (by omega)]; exact h3
      have h181 : M176 (m + 4) = some (.inl (0, 2, .inl kp)) := by rw [← eM176, j_up_ne _ _ (by omega)]; exact h4
      have h183 : M176 (m + 6) = some (.inl (0, 2400, .inl qa)) := by rw [← eM176, j_up_ne _ _ (by omega)]; exact h6
      have h184 : M176 (m + 5) = some (.inl (0, 2, .inl (upd mk 1 t))) := by rw [← eM176]; exact j_up_self _ _ _
      refine j_aload_n X 0 dX5_pass_43 rfl rfl ?_
      refine j_iload_n X 3 dX5_pass_44 rfl rfl ?_
      refine j_i2l X dX5_pass_45 ?_
      refine j_st (st := [.long (lI (mn mA mB).toInt), .ref m]) (by rw [l_of (mn mA mB)]) ?_
      refine j_aload_n X 0 dX5_pass_46 rfl rfl ?_
      refine j_callV X nwSQ_ok (As := []) (rest := [.long (lI (mn mA mB).toInt), .ref m]) h177 rfl rfl (c_X5_mark l D hI b0 h177 ⟨h178, h179, h180, h181, h184, h183⟩) rfl gX5_pass_X5_mark ⟨rfl, ddX5_mark⟩ ⟨Nat.le_of_ble_eq_true rfl, Nat.le_of_ble_eq_true rfl⟩ (Nat.le_of_ble_eq_true rfl) rfl dX5_pass_47 ⟨(by show 0 + 0 ≤ 0; omega), (by show 0 + 0 ≤ 0; omega)⟩ (fun r185 M186 n187 hr188 => ?_)
      obtain ⟨rfl, rfl, rfl⟩ := hr188
      refine j_st (st := [.int (mn mA t), .long (lI (mn mA mB).toInt), .ref m]) (by rw [(show mn ((upd mk 1 t) 0) ((upd mk 1 t) 1) = mn mA t from by rw [← hm0]; rfl)]; rfl) ?_
      refine j_i2l X dX5_pass_50 ?_
      refine j_st (st := [.long (lI (mn mA t).toInt), .long (lI (mn mA mB).toInt), .ref m]) (by rw [l_of (mn mA t)]) ?_
      refine j_iconst X dX5_pass_51 (v := 0) (by decide) ?_
      refine j_callV X nwSQ_ok (As := [.long (lI (mn mA mB).toInt), .long (lI (mn mA t).toInt), .int 0]) (rest := []) h177 rfl rfl (c_X5_go0 l D hI b0 (A := A) (qu := qu) (Gs := T ++ U) (T := T) (U := U) h177 ⟨h178, h179, h180, h181, h184, h183⟩ hk0 hlA hN h16 hla hTt hA hQ ⟨by omega, by omega⟩ ⟨by omega, by omega⟩ hGL rfl hT1 hU1) rfl gX5_pass_X5_goOver ⟨rfl, ddX5_goOver⟩ ⟨Nat.le_of_ble_eq_true rfl, Nat.le_of_ble_eq_true rfl⟩ (Nat.le_of_ble_eq_true rfl) rfl dX5_pass_52 ⟨(by show 0 + 0 ≤ 0; omega), (by show 0 + 0 ≤ 0; omega)⟩ (fun r189 M190 n191 hr192 => ?_)
      obtain ⟨rfl, rfl, s1, s2, s3, qb, hmg, hrg, hqb, hfg⟩ := hr192
      rw [hqb] at hrg
      refine j_st (st := [.int (nI (wc (-2147483648) T))]) rfl ?_
      have hmg : M190 m = some (.inr (5, [.int w, .int sl, .int la, .int sp, .int rm, .int ln, .ref (m + 1), .ref (m + 2), .ref (m + 3), .ref (m + 4), .ref (m + 5), .ref (m + 6), .int (nI qu.length), .int lt, .int pr, .int tl, .int tk, .int s1, .int s2, .int s3, .int (nI T.length)])) := hmg
      obtain ⟨p1, p2, p3, p4, p5, p6⟩ := id hrg
      refine j_istore X dX5_pass_55 (by decide) rfl (L' := [some (.ref m), some (.int 1), some (.int t), some (.int (mn mA mB)), some (.int mB), some (.int (nI (wc (-2147483648) T)))]) rfl ?_
      refine j_aload_n X 0 dX5_pass_57 rfl rfl ?_
      refine j_get X hmg rfl iwX5_pass_X5 12 (by decide) lkX5_pass_45 rfl dX5_pass_58 ?_
      refine j_aload_n X 0 dX5_pass_61 rfl rfl ?_
      refine j_get X hmg rfl iwX5_pass_X5 20 (by decide) lkX5_pass_118 rfl dX5_pass_62 ?_
      refine j_iadd X dX5_pass_65 ?_
      refine j_st (st := [.int (nI (qu.length + T.length))]) (by rw [show (nI qu.length) + (nI T.length) = nI (qu.length + T.length) from nI_add _ _]) ?_
      refine j_aload_n X 0 dX5_pass_66 rfl rfl ?_
      refine j_get X hmg rfl iwX5_pass_X5 5 (by decide) lkX5_pass_19 rfl dX5_pass_67 ?_
      refine j_icmp_le X 84 dX5_pass_70 (by decide) (fun c193 => ?_) (fun c193 => ?_)
      · skip
        refine j_aload_n X 0 dX5_pass_84 rfl rfl ?_
        refine j_iload_n X 3 dX5_pass_85 rfl rfl ?_
        refine j_i2l X dX5_pass_86 ?_
        refine j_st (st := [.long (lI (mn mA mB).toInt), .ref m]) (by rw [l_of (mn mA mB)]) ?_
        refine j_aload_n X 0 dX5_pass_87 rfl rfl ?_
        refine j_callV X nwSQ_ok (As := []) (rest := [.long (lI (mn mA mB).toInt), .ref m]) hmg rfl rfl (c_X5_mark l D hI b0 hmg ⟨p1, p2, p3, p4, p5, p6⟩) rfl gX5_pass_X5_mark ⟨rfl, ddX5_mark⟩ ⟨Nat.le_of_ble_eq_true rfl, Nat.le_of_ble_eq_true rfl⟩ (Nat.le_of_ble_eq_true rfl) rfl dX5_pass_88 ⟨(by show 0 + 0 ≤ 0; omega), (by show 0 + 0 ≤ 0; omega)⟩ (fun r194 M195 n196 hr197 => ?_)
        obtain ⟨rfl, rfl, rfl⟩ := hr197
        refine j_st (st := [.int (mn mA t), .long (lI (mn mA mB).toInt), .ref m]) (by rw [(show mn ((upd mk 1 t) 0) ((upd mk 1 t) 1) = mn mA t from by rw [← hm0]; rfl)]; rfl) ?_
        refine j_i2l X dX5_pass_91 ?_
        refine j_st (st := [.long (lI (mn mA t).toInt), .long (lI (mn mA mB).toInt), .ref m]) (by rw [l_of (mn mA t)]) ?_
        refine j_iconst X dX5_pass_92 (v := 1) (by decide) ?_
        refine j_callV X nwSQ_ok (As := [.long (lI (mn mA mB).toInt), .long (lI (mn mA t).toInt), .int 1]) (rest := []) hmg rfl rfl (c_X5_go1 l D hI b0 (A := A) (qu := qu) (Gs := T ++ U) (T := T) (U := U) hmg ⟨p1, p2, p3, p4, p5, p6⟩ hk0 hlA hN h16 hla hTt hA hQ ⟨by omega, by omega⟩ ⟨by omega, by omega⟩ hGL rfl hT1 hU1 hq4) rfl gX5_pass_X5_goOver ⟨rfl, ddX5_goOver⟩ ⟨Nat.le_of_ble_eq_true rfl, Nat.le_of_ble_eq_true rfl⟩ (Nat.le_of_ble_eq_true rfl) rfl dX5_pass_93 ⟨(by show 0 + 0 ≤ 0; omega), (by show 0 + 0 ≤ 0; omega)⟩ (fun r198 M199 n200 hr201 => ?_)
        obtain ⟨rfl, rfl, r1, r2, r3, qc, hmh, hrh, hqc, hfh⟩ := hr201
        refine j_st (st := [.int (nI (wc (-2147483648) T))]) rfl ?_
        have hmh : M199 m = some (.inr (5, [.int w, .int sl, .int la, .int sp, .int rm, .int ln, .ref (m + 1), .ref (m + 2), .ref (m + 3), .ref (m + 4), .ref (m + 5), .ref (m + 6), .int (nI (qu ++ T.map (fun g : Grp => ((1, g) : Rec))).length), .int lt, .int pr, .int tl, .int tk, .int r1, .int r2, .int r3, .int (nI T.length)])) := hmh
        obtain ⟨u1, u2, u3, u4, u5, u6⟩ := id hrh
        refine j_istore X dX5_pass_96 (by decide) rfl (L' := [some (.ref m), some (.int 1), some (.int t), some (.int (mn mA mB)), some (.int mB), some (.int (nI (wc (-2147483648) T)))]) rfl ?_
        refine j_aload_n X 0 dX5_pass_98 rfl rfl ?_
        refine j_dup X dX5_pass_99 rfl ?_
        refine j_get X hmh rfl iwX5_pass_X5 15 (by decide) lkX5_pass_54 rfl dX5_pass_100 ?_
        refine j_aload_n X 0 dX5_pass_103 rfl rfl ?_
        refine j_get X hmh rfl iwX5_pass_X5 20 (by decide) lkX5_pass_118 rfl dX5_pass_104 ?_
        refine j_iadd X dX5_pass_107 ?_
        refine j_put X hmh rfl iwX5_pass_X5 tyX5 tyX5_ok nmX5 15 (by decide) lkX5_pass_54 rfl rfl rfl (Nat.le_of_ble_eq_true rfl) (fs' := [.int w, .int sl, .int la, .int sp, .int rm, .int ln, .ref (m + 1), .ref (m + 2), .ref (m + 3), .ref (m + 4), .ref (m + 5), .ref (m + 6), .int (nI (qu ++ T.map (fun g : Grp => ((1, g) : Rec))).length), .int lt, .int pr, .int (tl + (nI T.length)), .int tk, .int r1, .int r2, .int r3, .int (nI T.length)]) rfl dX5_pass_108 ?_
        generalize eM202 : j_up M199 m (.inr (5, [.int w, .int sl, .int la, .int sp, .int rm, .int ln, .ref (m + 1), .ref (m + 2), .ref (m + 3), .ref (m + 4), .ref (m + 5), .ref (m + 6), .int (nI (qu ++ T.map (fun g : Grp => ((1, g) : Rec))).length), .int lt, .int pr, .int (tl + (nI T.length)), .int tk, .int r1, .int r2, .int r3, .int (nI T.length)])) = M202
        have h204 : M202 (m + 1) = some (.inl (0, 400, .inl ft)) := by rw [← eM202, j_up_ne _ _ (by omega)]; exact u1
        have h205 : M202 (m + 2) = some (.inl (0, 400, .inl fk)) := by rw [← eM202, j_up_ne _ _ (by omega)]; exact u2
        have h206 : M202 (m + 3) = some (.inl (0, 400, .inl fv)) := by rw [← eM202, j_up_ne _ _ (by omega)]; exact u3
        have h207 : M202 (m + 4) = some (.inl (0, 2, .inl kp)) := by rw [← eM202, j_up_ne _ _ (by omega)]; exact u4
        have h208 : M202 (m + 5) = some (.inl (0, 2, .inl (upd mk 1 t))) := by rw [← eM202, j_up_ne _ _ (by omega)]; exact u5
        have h209 : M202 (m + 6) = some (.inl (0, 2400, .inl qc)) := by rw [← eM202, j_up_ne _ _ (by omega)]; exact u6
        have h210 : M202 m = some (.inr (5, [.int w, .int sl, .int la, .int sp, .int rm, .int ln, .ref (m + 1), .ref (m + 2), .ref (m + 3), .ref (m + 4), .ref (m + 5), .ref (m + 6), .int (nI (qu ++ T.map (fun g : Grp => ((1, g) : Rec))).length), .int lt, .int pr, .int (tl + (nI T.length)), .int tk, .int r1, .int r2, .int r3, .int (nI T.length)])) := by rw [← eM202]; exact j_up_self _ _ _
        refine j_aload_n X 0 dX5_pass_111 rfl rfl ?_
        refine j_iconst X dX5_pass_112 (v := 0) (by decide) ?_
        refine j_callV X nwSQ_ok (As := [.int 0]) (rest := []) h210 rfl rfl (c_X5_sweepA l D hI b0 (le := A) h210 ⟨h204, h205, h206, h207, h208, h209⟩ hk0 hlA (fun i hi => by rw [Nat.zero_add]; exact hA i hi) hN hTA) rfl gX5_pass_X5_sweep ⟨rfl, ddX5_sweep⟩ ⟨Nat.le_of_ble_eq_true rfl, Nat.le_of_ble_eq_true rfl⟩ (Nat.le_of_ble_eq_true rfl) rfl dX5_pass_113 ⟨(by show 0 + 0 ≤ 0; omega), (by show 0 + 0 ≤ 0; omega)⟩ (fun r211 M212 n213 hr214 => ?_)
        rw [(show mn ((upd mk 1 t) 0) ((upd mk 1 t) 1) = mn mA t from by rw [← hm0]; rfl)] at hr214
        obtain ⟨rfl, rfl, gt, gk, gv, hms, hrs, hls, hou, hfs⟩ := hr214
        refine j_st (st := []) rfl ?_
        obtain ⟨v1, v2, v3, v4, v5, v6⟩ := id hrs
        have hms : M212 m = some (.inr (5, [.int w, .int sl, .int la, .int sp, .int rm, .int ln, .ref (m + 1), .ref (m + 2), .ref (m + 3), .ref (m + 4), .ref (m + 5), .ref (m + 6), .int (nI (qu ++ T.map (fun g : Grp => ((1, g) : Rec))).length), .int lt, .int pr, .int (tl + (nI T.length)), .int tk, .int r1, .int r2, .int r3, .int (nI T.length)])) := hms
        refine j_aload_n X 0 dX5_pass_116 rfl rfl ?_
        refine j_iconst X dX5_pass_117 (v := 1) (by decide) ?_
        refine j_callV X nwSQ_ok (As := [.int 1]) (rest := []) hms rfl rfl (c_X5_sweepB l D hI b0 (le := B) hms ⟨v1, v2, v3, v4, v5, v6⟩ hk1 hlB (fun i hi => by rw [(hou _ (Or.inr (by omega))).1, (hou _ (Or.inr (by omega))).2.1, (hou _ (Or.inr (by omega))).2.2]; exact hB i hi) hN hTB) rfl gX5_pass_X5_sweep ⟨rfl, ddX5_sweep⟩ ⟨Nat.le_of_ble_eq_true rfl, Nat.le_of_ble_eq_true rfl⟩ (Nat.le_of_ble_eq_true rfl) rfl dX5_pass_118 ⟨(by show 0 + 0 ≤ 0; omega), (by show 0 + 0 ≤ 0; omega)⟩ (fun r215 M216 n217 hr218 => ?_)
        rw [(show mn ((upd mk 1 t) 0) ((upd mk 1 t) 1) = mn mA t from by rw [← hm0]; rfl)] at hr218
        obtain ⟨rfl, rfl, ht, hk, hv, hmt, hrt, hlt, hov, hft⟩ := hr218
        refine j_st (st := []) rfl ?_
        obtain ⟨x1, x2, x3, x4, x5, x6⟩ := id hrt
        have hmt : M216 m = some (.inr (5, [.int w, .int sl, .int la, .int sp, .int rm, .int ln, .ref (m + 1), .ref (m + 2), .ref (m + 3), .ref (m + 4), .ref (m + 5), .ref (m + 6), .int (nI (qu ++ T.map (fun g : Grp => ((1, g) : Rec))).length), .int lt, .int pr, .int (tl + (nI T.length)), .int tk, .int r1, .int r2, .int r3, .int (nI T.length)])) := hmt
        refine j_iload X dX5_pass_121 rfl ?_
        exact j_iret X hlk hr (by omega) (by omega) dX5_pass_123 ⟨rfl, rfl, ⟨_, _, _, _, _, _, _, _, _, _, hmt, ⟨x1, x2, x3, x4, x5, x6⟩, rfl, rfl, hm0, rfl, Nat.le_trans (List.length_filter_le _ _) hlA, Nat.le_trans (List.length_filter_le _ _) hlB, by rw [List.length_append, List.length_map]; exact hq4, fun i hi => by have hi2 := Nat.lt_of_lt_of_le hi (List.length_filter_le _ _); have h9 := hls i hi; rw [Nat.zero_add] at h9; rw [(hov i (Or.inl (by omega))).1, (hov i (Or.inl (by omega))).2.1, (hov i (Or.inl (by omega))).2.2]; exact h9, hlt, hqc⟩, fun q hq => by rw [hft _ (by omega), hfs _ (by omega), ← eM202, j_up_ne _ _ (by omega), hfh _ (by omega), hfg _ (by omega), ← eM176, j_up_ne _ _ (by omega)]⟩
      · skip
        exact absurd hF c193
    · skip
      exact absurd (Int32.not_le.mp hS) c171
  · skip
    exact absurd hT (zo_eq.mp c170)
set_option maxHeartbeats 800000 in
set_option maxRecDepth 100000 in
theorem c_X5_mkBB (l : Launch) (D : va_G) {ty : jT} {cA : ClassId} (hI : ty[0]? = some (cA, .int)) (b0 : Nat) {M : jM} {n m : Nat} {w sl la sp rm ln mA mB lt pr tl tk : Int32} {A B : List Ev} {qu : List Rec} (h : RF M m w sl la sp rm ln mA mB lt pr tl tk A B qu) (t : Int32) (hT : ¬ (-1000000000 ≤ t ∧ t ≤ 1000000000)) : Ct l D ty vwCl nwSQ b0 yX5_markB wsX5_markB 4 107 0 0 [.ref m, .int t] M n (j_rd (.int (-2)) M n) := by
  obtain ⟨sm, my, gr, rc, ft, fk, fv, kp, mk, qa, hm, hr0, hk0, hk1, hm0, hm1, hlA, hlB, hlQ, hA, hB, hQ⟩ := id h
  have hm : M m = some (.inr (5, [.int w, .int sl, .int la, .int sp, .int rm, .int ln, .ref (m + 1), .ref (m + 2), .ref (m + 3), .ref (m + 4), .ref (m + 5), .ref (m + 6), .int (nI qu.length), .int lt, .int pr, .int tl, .int tk, .int sm, .int my, .int gr, .int rc])) := hm
  obtain ⟨h1, h2, h3, h4, h5, h6⟩ := id hr0
  refine j_start (cc := cX5_markB) (maxL := 2) (ret := (some .int)) (by decide) rfl [some (.ref m), some (.int t)] (Nat.le_of_ble_eq_true rfl) rfl ?_
  intro p e s m0 below meth c X hlk hr hnm
  refine j_aload_n X 0 dX5_markB_0 rfl rfl ?_
  refine j_iconst X dX5_markB_1 (v := 1) (by decide) ?_
  refine j_iload_n X 1 dX5_markB_2 rfl rfl ?_
  refine j_callV X nwSQ_ok (As := [.int 1, .int t]) (rest := []) hm rfl rfl (c_X5_passBB l D hI b0 h t hT) rfl gX5_markB_X5_pass ⟨rfl, ddX5_pass⟩ ⟨Nat.le_of_ble_eq_true rfl, Nat.le_of_ble_eq_true rfl⟩ (Nat.le_of_ble_eq_true rfl) rfl dX5_markB_3 ⟨(by show 0 + 0 ≤ 0; omega), (by show 0 + 0 ≤ 0; omega)⟩ (fun r219 M220 n221 hr222 => ?_)
  obtain ⟨rfl, rfl, rfl⟩ := hr222
  refine j_st (st := [.int (-2)]) rfl ?_
  exact j_iret X hlk hr (by omega) (by omega) dX5_markB_6 ⟨rfl, rfl, rfl⟩
set_option maxHeartbeats 800000 in
set_option maxRecDepth 100000 in
theorem c_X5_mkBS (l : Launch) (D : va_G) {ty : jT} {cA : ClassId} (hI : ty[0]? = some (cA, .int)) (b0 : Nat) {M : jM} {n m : Nat} {w sl la sp rm ln mA mB lt pr tl tk : Int32} {A B : List Ev} {qu : List Rec} (h : RF M m w sl la sp rm ln mA mB lt pr tl tk A B qu) (t : Int32) (hT : (-1000000000 ≤ t ∧ t ≤ 1000000000)) (hS : t ≤ mB) : Ct l D ty vwCl nwSQ b0 yX5_markB wsX5_markB 4 107 0 0 [.ref m, .int t] M n (j_rd (.int (-5)) M n) := by
  obtain ⟨sm, my, gr, rc, ft, fk, fv, kp, mk, qa, hm, hr0, hk0, hk1, hm0, hm1, hlA, hlB, hlQ, hA, hB, hQ⟩ := id h
  have hm : M m = some (.inr (5, [.int w, .int sl, .int la, .int sp, .int rm, .int ln, .ref (m + 1), .ref (m + 2), .ref (m + 3), .ref (m + 4), .ref (m + 5), .ref (m + 6), .int (nI qu.length), .int lt, .int pr, .int tl, .int tk, .int sm, .int my, .int gr, .int rc])) := hm
  obtain ⟨h1, h2, h3, h4, h5, h6⟩ := id hr0
  refine j_start (cc := cX5_markB) (maxL := 2) (ret := (some .int)) (by decide) rfl [some (.ref m), some (.int t)] (Nat.le_of_ble_eq_true rfl) rfl ?_
  intro p e s m0 below meth c X hlk hr hnm
  refine j_aload_n X 0 dX5_markB_0 rfl rfl ?_
  refine j_iconst X dX5_markB_1 (v := 1) (by decide) ?_
  refine j_iload_n X 1 dX5_markB_2 rfl rfl ?_
  refine j_callV X nwSQ_ok (As := [.int 1, .int t]) (rest := []) hm rfl rfl (c_X5_passBS l D hI b0 h t hT hS) rfl gX5_markB_X5_pass ⟨rfl, ddX5_pass⟩ ⟨Nat.le_of_ble_eq_true rfl, Nat.le_of_ble_eq_true rfl⟩ (Nat.le_of_ble_eq_true rfl) rfl dX5_markB_3 ⟨(by show 0 + 0 ≤ 0; omega), (by show 0 + 0 ≤ 0; omega)⟩ (fun r223 M224 n225 hr226 => ?_)
  obtain ⟨rfl, rfl, rfl⟩ := hr226
  refine j_st (st := [.int (-5)]) rfl ?_
  exact j_iret X hlk hr (by omega) (by omega) dX5_markB_6 ⟨rfl, rfl, rfl⟩
set_option maxHeartbeats 800000 in
set_option maxRecDepth 100000 in
theorem c_X5_mkBF (l : Launch) (D : va_G) {ty : jT} {cA : ClassId} (hI : ty[0]? = some (cA, .int)) (b0 : Nat) {M : jM} {n m : Nat} {w sl la sp rm ln mA mB lt pr tl tk : Int32} {A B : List Ev} {qu : List Rec} (h : RF M m w sl la sp rm ln mA mB lt pr tl tk A B qu) (t : Int32) (hT : (-1000000000 ≤ t ∧ t ≤ 1000000000)) (hS : ¬ t ≤ mB) (hTA : ∀ e ∈ A, -1000000000 ≤ e.1.toInt ∧ e.1.toInt ≤ 1000000000) (hTB : ∀ e ∈ B, -1000000000 ≤ e.1.toInt ∧ e.1.toInt ≤ 1000000000) (hN : okN w sl) (h16 : w.toInt ≤ 16 * sl.toInt) (hla : 0 ≤ la.toInt ∧ la.toInt ≤ 1000000) {T U : List Grp} (hGL : GL w.toInt sl.toInt ((mn mA mB).toInt - la.toInt) A (T ++ U)) (hT1 : ∀ g ∈ T, g.1.toInt ≤ (mn mA t).toInt - la.toInt) (hU1 : ∀ g ∈ U, (mn mA t).toInt - la.toInt < g.1.toInt) (hF : ¬ nI (qu.length + T.length) ≤ ln) : Ct l D ty vwCl nwSQ b0 yX5_markB wsX5_markB 4 107 0 0 [.ref m, .int t] M n (fun r M' n' => r = some (.int (-3)) ∧ n = n' ∧ RF M' m w sl la sp rm ln mA mB lt pr tl tk A B qu ∧ ∀ q, (q < m ∨ m + 6 < q) → M' q = M q) := by
  obtain ⟨sm, my, gr, rc, ft, fk, fv, kp, mk, qa, hm, hr0, hk0, hk1, hm0, hm1, hlA, hlB, hlQ, hA, hB, hQ⟩ := id h
  have hm : M m = some (.inr (5, [.int w, .int sl, .int la, .int sp, .int rm, .int ln, .ref (m + 1), .ref (m + 2), .ref (m + 3), .ref (m + 4), .ref (m + 5), .ref (m + 6), .int (nI qu.length), .int lt, .int pr, .int tl, .int tk, .int sm, .int my, .int gr, .int rc])) := hm
  obtain ⟨h1, h2, h3, h4, h5, h6⟩ := id hr0
  refine j_start (cc := cX5_markB) (maxL := 2) (ret := (some .int)) (by decide) rfl [some (.ref m), some (.int t)] (Nat.le_of_ble_eq_true rfl) rfl ?_
  intro p e s m0 below meth c X hlk hr hnm
  refine j_aload_n X 0 dX5_markB_0 rfl rfl ?_
  refine j_iconst X dX5_markB_1 (v := 1) (by decide) ?_
  refine j_iload_n X 1 dX5_markB_2 rfl rfl ?_
  refine j_callV X nwSQ_ok (As := [.int 1, .int t]) (rest := []) hm rfl rfl (c_X5_passBF l D hI b0 h t hT hS hTA hTB hN h16 hla hGL hT1 hU1 hF) rfl gX5_markB_X5_pass ⟨rfl, ddX5_pass⟩ ⟨Nat.le_of_ble_eq_true rfl, Nat.le_of_ble_eq_true rfl⟩ (Nat.le_of_ble_eq_true rfl) rfl dX5_markB_3 ⟨(by show 0 + 0 ≤ 0; omega), (by show 0 + 0 ≤ 0; omega)⟩ (fun r227 M228 n229 hr230 => ?_)
  obtain ⟨rfl, rfl, hRF, hFr⟩ := hr230
  refine j_st (st := [.int (-3)]) rfl ?_
  exact j_iret X hlk hr (by omega) (by omega) dX5_markB_6 ⟨rfl, rfl, hRF, hFr⟩
set_option maxHeartbeats 800000 in
set_option maxRecDepth 100000 in
theorem c_X5_mkBT (l : Launch) (D : va_G) {ty : jT} {cA : ClassId} (hI : ty[0]? = some (cA, .int)) (b0 : Nat) {M : jM} {n m : Nat} {w sl la sp rm ln mA mB lt pr tl tk : Int32} {A B : List Ev} {qu : List Rec} (h : RF M m w sl la sp rm ln mA mB lt pr tl tk A B qu) (t : Int32) (hT : (-1000000000 ≤ t ∧ t ≤ 1000000000)) (hS : ¬ t ≤ mB) (hTA : ∀ e ∈ A, -1000000000 ≤ e.1.toInt ∧ e.1.toInt ≤ 1000000000) (hTB : ∀ e ∈ B, -1000000000 ≤ e.1.toInt ∧ e.1.toInt ≤ 1000000000) (hN : okN w sl) (h16 : w.toInt ≤ 16 * sl.toInt) (hla : 0 ≤ la.toInt ∧ la.toInt ≤ 1000000) {T U : List Grp} (hGL : GL w.toInt sl.toInt ((mn mA mB).toInt - la.toInt) A (T ++ U)) (hT1 : ∀ g ∈ T, g.1.toInt ≤ (mn mA t).toInt - la.toInt) (hU1 : ∀ g ∈ U, (mn mA t).toInt - la.toInt < g.1.toInt) (hF : nI (qu.length + T.length) ≤ ln) (hq4 : qu.length + T.length ≤ 400) : Ct l D ty vwCl nwSQ b0 yX5_markB wsX5_markB 4 107 0 0 [.ref m, .int t] M n (fun r M' n' => r = some (.int (nI (wc (-2147483648) T))) ∧ n = n' ∧ RF M' m w sl la sp rm ln mA t lt pr (tl + nI T.length) tk (A.filter (fun e : Ev => (kpA w.toInt sl.toInt la.toInt sp.toInt (mn mA t).toInt) e.1.toInt)) (B.filter (fun e : Ev => (kpB la.toInt sp.toInt (mn mA t).toInt) e.1.toInt)) (qu ++ T.map (fun g : Grp => ((1, g) : Rec))) ∧ ∀ q, (q < m ∨ m + 6 < q) → M' q = M q) := by
  obtain ⟨sm, my, gr, rc, ft, fk, fv, kp, mk, qa, hm, hr0, hk0, hk1, hm0, hm1, hlA, hlB, hlQ, hA, hB, hQ⟩ := id h
  have hm : M m = some (.inr (5, [.int w, .int sl, .int la, .int sp, .int rm, .int ln, .ref (m + 1), .ref (m + 2), .ref (m + 3), .ref (m + 4), .ref (m + 5), .ref (m + 6), .int (nI qu.length), .int lt, .int pr, .int tl, .int tk, .int sm, .int my, .int gr, .int rc])) := hm
  obtain ⟨h1, h2, h3, h4, h5, h6⟩ := id hr0
  refine j_start (cc := cX5_markB) (maxL := 2) (ret := (some .int)) (by decide) rfl [some (.ref m), some (.int t)] (Nat.le_of_ble_eq_true rfl) rfl ?_
  intro p e s m0 below meth c X hlk hr hnm
  refine j_aload_n X 0 dX5_markB_0 rfl rfl ?_
  refine j_iconst X dX5_markB_1 (v := 1) (by decide) ?_
  refine j_iload_n X 1 dX5_markB_2 rfl rfl ?_
  refine j_callV X nwSQ_ok (As := [.int 1, .int t]) (rest := []) hm rfl rfl (c_X5_passBT l D hI b0 h t hT hS hTA hTB hN h16 hla hGL hT1 hU1 hF hq4) rfl gX5_markB_X5_pass ⟨rfl, ddX5_pass⟩ ⟨Nat.le_of_ble_eq_true rfl, Nat.le_of_ble_eq_true rfl⟩ (Nat.le_of_ble_eq_true rfl) rfl dX5_markB_3 ⟨(by show 0 + 0 ≤ 0; omega), (by show 0 + 0 ≤ 0; omega)⟩ (fun r231 M232 n233 hr234 => ?_)
  obtain ⟨rfl, rfl, hRF, hFr⟩ := hr234
  refine j_st (st := [.int (nI (wc (-2147483648) T))]) rfl ?_
  exact j_iret X hlk hr (by omega) (by omega) dX5_markB_6 ⟨rfl, rfl, hRF, hFr⟩
set_option maxHeartbeats 800000 in
set_option maxRecDepth 100000 in
theorem c_X5_markR (l : Launch) (D : va_G) {ty : jT} {cA : ClassId} (hI : ty[0]? = some (cA, .int)) (b0 : Nat) {M : jM} {n m : Nat} {w sl la sp rm ln mA mB lt pr tl tk : Int32} {A B : List Ev} {qu : List Rec} (h : RF M m w sl la sp rm ln mA mB lt pr tl tk A B qu) : Ct l D ty vwCl nwSQ b0 yX5_mark wsX5_mark 0 0 0 0 [.ref m] M n (j_rd (.int (mn mA mB)) M n) := by
  obtain ⟨sm, my, gr, rc, ft, fk, fv, kp, mk, qa, hm, hr0, hk0, hk1, hm0, hm1, hlA, hlB, hlQ, hA, hB, hQ⟩ := id h
  have hm : M m = some (.inr (5, [.int w, .int sl, .int la, .int sp, .int rm, .int ln, .ref (m + 1), .ref (m + 2), .ref (m + 3), .ref (m + 4), .ref (m + 5), .ref (m + 6), .int (nI qu.length), .int lt, .int pr, .int tl, .int tk, .int sm, .int my, .int gr, .int rc])) := hm
  obtain ⟨h1, h2, h3, h4, h5, h6⟩ := id hr0
  rw [← hm0, ← hm1]
  exact c_X5_mark l D hI b0 hm hr0
