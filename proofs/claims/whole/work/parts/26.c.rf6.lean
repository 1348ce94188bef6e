set_option maxHeartbeats 800000 in
set_option maxRecDepth 100000 in
theorem c_X5_takeAB (l : Launch) (D : va_G) {ty : jT} {cA : ClassId} (hI : ty[0]? = some (cA, .int)) (b0 : Nat) {M : jM} {n m : Nat} {w sl la sp rm ln mA mB lt pr tl tk : Int32} {A B : List Ev} {qu : List Rec} (h : RF M m w sl la sp rm ln mA mB lt pr tl tk A B qu) (t k v : Int32) (hT : ¬ (-1000000000 ≤ t ∧ t ≤ 1000000000)) : Ct l D ty vwCl nwSQ b0 yX5_take wsX5_take 2 58 0 0 [.ref m, .int 0, .int t, .int k, .int v] M n (j_rd (.int (-2)) M n) := by
  obtain ⟨sm, my, gr, rc, ft, fk, fv, kp, mk, qa, hm, hr0, hk0, hk1, hm0, hm1, hlA, hlB, hlQ, hA, hB, hQ⟩ := id h
  have hm : M m = some (.inr (5, [.int w, .int sl, .int la, .int sp, .int rm, .int ln, .ref (m + 1), .ref (m + 2), .ref (m + 3), .ref (m + 4), .ref (m + 5), .ref (m + 6), .int (nI qu.length), .int lt, .int pr, .int tl, .int tk, .int sm, .int my, .int gr, .int rc])) := hm
  obtain ⟨h1, h2, h3, h4, h5, h6⟩ := id hr0
  refine j_start (cc := cX5_take) (maxL := 6) (ret := (some .int)) (by decide) rfl [some (.ref m), some (.int 0), some (.int t), some (.int k), some (.int v), none] (Nat.le_of_ble_eq_true rfl) rfl ?_
  intro p e s m0 below meth c X hlk hr hnm
  refine j_iload_n X 2 dX5_take_0 rfl rfl ?_
  refine j_callS X nwSQ_ok (As := [.int t]) (rest := []) rfl (c_X5_isTime l D hI b0 t) rfl gX5_take_X5_isTime ddX5_isTime ⟨Nat.le_of_ble_eq_true rfl, Nat.le_of_ble_eq_true rfl⟩ (Nat.le_of_ble_eq_true rfl) rfl dX5_take_1 ⟨(by show 0 + 0 ≤ 0; omega), (by show 0 + 0 ≤ 0; omega)⟩ (fun r1 M2 n3 hr4 => ?_)
  obtain ⟨rfl, rfl, rfl⟩ := hr4
  refine j_st (st := [.int (if -1000000000 ≤ t ∧ t ≤ 1000000000 then 1 else 0)]) rfl ?_
  refine j_if_ne X 10 dX5_take_4 (by decide) (fun c5 => ?_) (fun c5 => ?_)
  · skip
    exact absurd (zo_ne.mp c5) hT
  · skip
    refine j_bipush X dX5_take_7 (v := (-2)) (by decide) ?_
    exact j_iret X hlk hr (by omega) (by omega) dX5_take_9 ⟨rfl, rfl, rfl⟩
set_option maxHeartbeats 800000 in
set_option maxRecDepth 100000 in
theorem c_X5_takeAL (l : Launch) (D : va_G) {ty : jT} {cA : ClassId} (hI : ty[0]? = some (cA, .int)) (b0 : Nat) {M : jM} {n m : Nat} {w sl la sp rm ln mA mB lt pr tl tk : Int32} {A B : List Ev} {qu : List Rec} (h : RF M m w sl la sp rm ln mA mB lt pr tl tk A B qu) (t k v : Int32) (hT : (-1000000000 ≤ t ∧ t ≤ 1000000000)) (hL : ¬ (mn mA mB).toInt - la.toInt ≤ t.toInt) : Ct l D ty vwCl nwSQ b0 yX5_take wsX5_take 2 58 0 0 [.ref m, .int 0, .int t, .int k, .int v] M n (fun r M' n' => r = some (.int (-4)) ∧ n = n' ∧ RF M' m w sl la sp rm ln mA mB (lt + 1) pr tl tk A B qu ∧ ∀ q, (q < m ∨ m + 6 < q) → M' q = M q) := by
  obtain ⟨sm, my, gr, rc, ft, fk, fv, kp, mk, qa, hm, hr0, hk0, hk1, hm0, hm1, hlA, hlB, hlQ, hA, hB, hQ⟩ := id h
  have hm : M m = some (.inr (5, [.int w, .int sl, .int la, .int sp, .int rm, .int ln, .ref (m + 1), .ref (m + 2), .ref (m + 3), .ref (m + 4), .ref (m + 5), .ref (m + 6), .int (nI qu.length), .int lt, .int pr, .int tl, .int tk, .int sm, .int my, .int gr, .int rc])) := hm
  obtain ⟨h1, h2, h3, h4, h5, h6⟩ := id hr0
  have hq1 := i_rng (mn mA mB)
  have hq2 := i_rng la
  have hq3 := i_rng t
  have hbt : bigI t.toInt := ⟨by omega, by omega⟩
  have hbm : bigI ((mn mA mB).toInt - la.toInt) := ⟨by omega, by omega⟩
  refine j_start (cc := cX5_take) (maxL := 6) (ret := (some .int)) (by decide) rfl [some (.ref m), some (.int 0), some (.int t), some (.int k), some (.int v), none] (Nat.le_of_ble_eq_true rfl) rfl ?_
  intro p e s m0 below meth c X hlk hr hnm
  refine j_iload_n X 2 dX5_take_0 rfl rfl ?_
  refine j_callS X nwSQ_ok (As := [.int t]) (rest := []) rfl (c_X5_isTime l D hI b0 t) rfl gX5_take_X5_isTime ddX5_isTime ⟨Nat.le_of_ble_eq_true rfl, Nat.le_of_ble_eq_true rfl⟩ (Nat.le_of_ble_eq_true rfl) rfl dX5_take_1 ⟨(by show 0 + 0 ≤ 0; omega), (by show 0 + 0 ≤ 0; omega)⟩ (fun r6 M7 n8 hr9 => ?_)
  obtain ⟨rfl, rfl, rfl⟩ := hr9
  refine j_st (st := [.int (if -1000000000 ≤ t ∧ t ≤ 1000000000 then 1 else 0)]) rfl ?_
  refine j_if_ne X 10 dX5_take_4 (by decide) (fun c10 => ?_) (fun c10 => ?_)
  · skip
    refine j_iload_n X 2 dX5_take_10 rfl rfl ?_
    refine j_i2l X dX5_take_11 ?_
    refine j_st (st := [.long (lI t.toInt)]) (by rw [l_of t]) ?_
    refine j_aload_n X 0 dX5_take_12 rfl rfl ?_
    refine j_callV X nwSQ_ok (As := []) (rest := [.long (lI t.toInt)]) hm rfl rfl (c_X5_mark l D hI b0 hm ⟨h1, h2, h3, h4, h5, h6⟩) rfl gX5_take_X5_mark ⟨rfl, ddX5_mark⟩ ⟨Nat.le_of_ble_eq_true rfl, Nat.le_of_ble_eq_true rfl⟩ (Nat.le_of_ble_eq_true rfl) rfl dX5_take_13 ⟨(by show 0 + 0 ≤ 0; omega), (by show 0 + 0 ≤ 0; omega)⟩ (fun r11 M12 n13 hr14 => ?_)
    obtain ⟨rfl, rfl, rfl⟩ := hr14
    refine j_st (st := [.int (mn mA mB), .long (lI t.toInt)]) (by rw [hm0, hm1]; rfl) ?_
    refine j_i2l X dX5_take_16 ?_
    refine j_st (st := [.long (lI (mn mA mB).toInt), .long (lI t.toInt)]) (by rw [l_of (mn mA mB)]) ?_
    refine j_aload_n X 0 dX5_take_17 rfl rfl ?_
    refine j_get X hm rfl iwX5_take_X5 2 (by decide) lkX5_take_67 rfl dX5_take_18 ?_
    refine j_i2l X dX5_take_21 ?_
    refine j_st (st := [.long (lI la.toInt), .long (lI (mn mA mB).toInt), .long (lI t.toInt)]) (by rw [l_of la]) ?_
    refine j_lsub X dX5_take_22 ?_
    refine j_st (st := [.long (lI (((mn mA mB).toInt) - la.toInt)), .long (lI t.toInt)]) (by rw [lI_sub]) ?_
    refine j_lc_ge X 40 dX5_take_23 dX5_take_24 (by decide) (fun c15 => ?_) (fun c15 => ?_)
    · skip
      exact absurd ((lI_le hbm hbt).mp c15) hL
    · skip
      refine j_aload_n X 0 dX5_take_27 rfl rfl ?_
      refine j_dup X dX5_take_28 rfl ?_
      refine j_get X hm rfl iwX5_take_X5 13 (by decide) lkX5_take_48 rfl dX5_take_29 ?_
      refine j_iconst X dX5_take_32 (v := 1) (by decide) ?_
      refine j_iadd X dX5_take_33 ?_
      refine j_put X hm rfl iwX5_take_X5 tyX5 tyX5_ok nmX5 13 (by decide) lkX5_take_48 rfl rfl rfl (Nat.le_of_ble_eq_true rfl) (fs' := [.int w, .int sl, .int la, .int sp, .int rm, .int ln, .ref (m + 1), .ref (m + 2), .ref (m + 3), .ref (m + 4), .ref (m + 5), .ref (m + 6), .int (nI qu.length), .int (lt + 1), .int pr, .int tl, .int tk, .int sm, .int my, .int gr, .int rc]) rfl dX5_take_34 ?_
      generalize eM16 : j_up M m (.inr (5, [.int w, .int sl, .int la, .int sp, .int rm, .int ln, .ref (m + 1), .ref (m + 2), .ref (m + 3), .ref (m + 4), .ref (m + 5), .ref (m + 6), .int (nI qu.length), .int (lt + 1), .int pr, .int tl, .int tk, .int sm, .int my, .int gr, .int rc])) = M16
      have h18 : M16 (m + 1) = some (.inl (0, 400, .inl ft)) := by rw [← eM16, j_up_ne _ _ (by omega)]; exact h1
      have h19 : M16 (m + 2) = some (.inl (0, 400, .inl fk)) := by rw [← eM16, j_up_ne _ _ (by omega)]; exact h2
      have h20 : M16 (m + 3) = some (.inl (0, 400, .inl fv)) := by rw [← eM16, j_up_ne _ _ (by omega)]; exact h3
      have h21 : M16 (m + 4) = some (.inl (0, 2, .inl kp)) := by rw [← eM16, j_up_ne _ _ (by omega)]; exact h4
      have h22 : M16 (m + 5) = some (.inl (0, 2, .inl mk)) := by rw [← eM16, j_up_ne _ _ (by omega)]; exact h5
      have h23 : M16 (m + 6) = some (.inl (0, 2400, .inl qa)) := by rw [← eM16, j_up_ne _ _ (by omega)]; exact h6
      have h24 : M16 m = some (.inr (5, [.int w, .int sl, .int la, .int sp, .int rm, .int ln, .ref (m + 1), .ref (m + 2), .ref (m + 3), .ref (m + 4), .ref (m + 5), .ref (m + 6), .int (nI qu.length), .int (lt + 1), .int pr, .int tl, .int tk, .int sm, .int my, .int gr, .int rc])) := by rw [← eM16]; exact j_up_self _ _ _
      refine j_bipush X dX5_take_37 (v := (-4)) (by decide) ?_
      exact j_iret X hlk hr (by omega) (by omega) dX5_take_39 ⟨rfl, rfl, ⟨sm, my, gr, rc, ft, fk, fv, kp, mk, qa, h24, ⟨h18, h19, h20, h21, h22, h23⟩, hk0, hk1, hm0, hm1, hlA, hlB, hlQ, hA, hB, hQ⟩, fun q hq => by rw [← eM16, j_up_ne _ _ (by omega)]⟩
  · skip
    exact absurd hT (zo_eq.mp c10)
set_option maxHeartbeats 800000 in
set_option maxRecDepth 100000 in
theorem c_X5_takeAF (l : Launch) (D : va_G) {ty : jT} {cA : ClassId} (hI : ty[0]? = some (cA, .int)) (b0 : Nat) {M : jM} {n m : Nat} {w sl la sp rm ln mA mB lt pr tl tk : Int32} {A B : List Ev} {qu : List Rec} (h : RF M m w sl la sp rm ln mA mB lt pr tl tk A B qu) (t k v : Int32) (hT : (-1000000000 ≤ t ∧ t ≤ 1000000000)) (hL : (mn mA mB).toInt - la.toInt ≤ t.toInt) (hR : nI (A.length + B.length) = rm) : Ct l D ty vwCl nwSQ b0 yX5_take wsX5_take 2 58 0 0 [.ref m, .int 0, .int t, .int k, .int v] M n (j_rd (.int (-3)) M n) := by
  obtain ⟨sm, my, gr, rc, ft, fk, fv, kp, mk, qa, hm, hr0, hk0, hk1, hm0, hm1, hlA, hlB, hlQ, hA, hB, hQ⟩ := id h
  have hm : M m = some (.inr (5, [.int w, .int sl, .int la, .int sp, .int rm, .int ln, .ref (m + 1), .ref (m + 2), .ref (m + 3), .ref (m + 4), .ref (m + 5), .ref (m + 6), .int (nI qu.length), .int lt, .int pr, .int tl, .int tk, .int sm, .int my, .int gr, .int rc])) := hm
  obtain ⟨h1, h2, h3, h4, h5, h6⟩ := id hr0
  have hq1 := i_rng (mn mA mB)
  have hq2 := i_rng la
  have hq3 := i_rng t
  have hbt : bigI t.toInt := ⟨by omega, by omega⟩
  have hbm : bigI ((mn mA mB).toInt - la.toInt) := ⟨by omega, by omega⟩
  refine j_start (cc := cX5_take) (maxL := 6) (ret := (some .int)) (by decide) rfl [some (.ref m), some (.int 0), some (.int t), some (.int k), some (.int v), none] (Nat.le_of_ble_eq_true rfl) rfl ?_
  intro p e s m0 below meth c X hlk hr hnm
  refine j_iload_n X 2 dX5_take_0 rfl rfl ?_
  refine j_callS X nwSQ_ok (As := [.int t]) (rest := []) rfl (c_X5_isTime l D hI b0 t) rfl gX5_take_X5_isTime ddX5_isTime ⟨Nat.le_of_ble_eq_true rfl, Nat.le_of_ble_eq_true rfl⟩ (Nat.le_of_ble_eq_true rfl) rfl dX5_take_1 ⟨(by show 0 + 0 ≤ 0; omega), (by show 0 + 0 ≤ 0; omega)⟩ (fun r25 M26 n27 hr28 => ?_)
  obtain ⟨rfl, rfl, rfl⟩ := hr28
  refine j_st (st := [.int (if -1000000000 ≤ t ∧ t ≤ 1000000000 then 1 else 0)]) rfl ?_
  refine j_if_ne X 10 dX5_take_4 (by decide) (fun c29 => ?_) (fun c29 => ?_)
  · skip
    refine j_iload_n X 2 dX5_take_10 rfl rfl ?_
    refine j_i2l X dX5_take_11 ?_
    refine j_st (st := [.long (lI t.toInt)]) (by rw [l_of t]) ?_
    refine j_aload_n X 0 dX5_take_12 rfl rfl ?_
    refine j_callV X nwSQ_ok (As := []) (rest := [.long (lI t.toInt)]) hm rfl rfl (c_X5_mark l D hI b0 hm ⟨h1, h2, h3, h4, h5, h6⟩) rfl gX5_take_X5_mark ⟨rfl, ddX5_mark⟩ ⟨Nat.le_of_ble_eq_true rfl, Nat.le_of_ble_eq_true rfl⟩ (Nat.le_of_ble_eq_true rfl) rfl dX5_take_13 ⟨(by show 0 + 0 ≤ 0; omega), (by show 0 + 0 ≤ 0; omega)⟩ (fun r30 M31 n32 hr33 => ?_)
    obtain ⟨rfl, rfl, rfl⟩ := hr33
    refine j_st (st := [.int (mn mA mB), .long (lI t.toInt)]) (by rw [hm0, hm1]; rfl) ?_
    refine j_i2l X dX5_take_16 ?_
    refine j_st (st := [.long (lI (mn mA mB).toInt), .long (lI t.toInt)]) (by rw [l_of (mn mA mB)]) ?_
    refine j_aload_n X 0 dX5_take_17 rfl rfl ?_
    refine j_get X hm rfl iwX5_take_X5 2 (by decide) lkX5_take_67 rfl dX5_take_18 ?_
    refine j_i2l X dX5_take_21 ?_
    refine j_st (st := [.long (lI la.toInt), .long (lI (mn mA mB).toInt), .long (lI t.toInt)]) (by rw [l_of la]) ?_
    refine j_lsub X dX5_take_22 ?_
    refine j_st (st := [.long (lI (((mn mA mB).toInt) - la.toInt)), .long (lI t.toInt)]) (by rw [lI_sub]) ?_
    refine j_lc_ge X 40 dX5_take_23 dX5_take_24 (by decide) (fun c34 => ?_) (fun c34 => ?_)
    · skip
      refine j_aload_n X 0 dX5_take_40 rfl rfl ?_
      refine j_get X hm rfl iwX5_take_X5 9 (by decide) lkX5_take_32 rfl dX5_take_41 ?_
      refine j_iconst X dX5_take_44 (v := 0) (by decide) ?_
      refine j_iald X h4 hI (vp_in_nI (n := 0) (by decide) (by decide)) (v := nI A.length) (hk0) dX5_take_45 ?_
      refine j_aload_n X 0 dX5_take_46 rfl rfl ?_
      refine j_get X hm rfl iwX5_take_X5 9 (by decide) lkX5_take_32 rfl dX5_take_47 ?_
      refine j_iconst X dX5_take_50 (v := 1) (by decide) ?_
      refine j_iald X h4 hI (vp_in_nI (n := 1) (by decide) (by decide)) (v := nI B.length) (hk1) dX5_take_51 ?_
      refine j_iadd X dX5_take_52 ?_
      refine j_st (st := [.int (nI (A.length + B.length))]) (by rw [show (nI A.length) + (nI B.length) = nI (A.length + B.length) from nI_add _ _]) ?_
      refine j_aload_n X 0 dX5_take_53 rfl rfl ?_
      refine j_get X hm rfl iwX5_take_X5 4 (by decide) lkX5_take_16 rfl dX5_take_54 ?_
      refine j_icmp_eq X 82 dX5_take_57 (by decide) (fun c35 => ?_) (fun c35 => ?_)
      · skip
        refine j_bipush X dX5_take_82 (v := (-3)) (by decide) ?_
        exact j_iret X hlk hr (by omega) (by omega) dX5_take_84 ⟨rfl, rfl, rfl⟩
      · skip
        exact absurd hR c35
    · skip
      exact absurd ((lI_le hbm hbt).mpr hL) c34
  · skip
    exact absurd hT (zo_eq.mp c29)
set_option maxHeartbeats 800000 in
set_option maxRecDepth 100000 in
theorem c_X5_takeAQ (l : Launch) (D : va_G) {ty : jT} {cA : ClassId} (hI : ty[0]? = some (cA, .int)) (b0 : Nat) {M : jM} {n m : Nat} {w sl la sp rm ln mA mB lt pr tl tk : Int32} {A B : List Ev} {qu : List Rec} (h : RF M m w sl la sp rm ln mA mB lt pr tl tk A B qu) (t k v : Int32) (hTA : ∀ e ∈ A, -1000000000 ≤ e.1.toInt ∧ e.1.toInt ≤ 1000000000) (hTB : ∀ e ∈ B, -1000000000 ≤ e.1.toInt ∧ e.1.toInt ≤ 1000000000) (hT : (-1000000000 ≤ t ∧ t ≤ 1000000000)) (hL : (mn mA mB).toInt - la.toInt ≤ t.toInt) (hR : ¬ nI (A.length + B.length) = rm) (hN : ¬ nI (qu.length + B.countP (nr t k sp)) ≤ ln) (hown : A.length < 200) : Ct l D ty vwCl nwSQ b0 yX5_take wsX5_take 2 58 0 0 [.ref m, .int 0, .int t, .int k, .int v] M n (fun r M' n' => r = some (.int (-3)) ∧ n = n' ∧ RF M' m w sl la sp rm ln mA mB lt pr tl tk A B qu ∧ ∀ q, (q < m ∨ m + 6 < q) → M' q = M q) := by
  obtain ⟨sm, my, gr, rc, ft, fk, fv, kp, mk, qa, hm, hr0, hk0, hk1, hm0, hm1, hlA, hlB, hlQ, hA, hB, hQ⟩ := id h
  have hm : M m = some (.inr (5, [.int w, .int sl, .int la, .int sp, .int rm, .int ln, .ref (m + 1), .ref (m + 2), .ref (m + 3), .ref (m + 4), .ref (m + 5), .ref (m + 6), .int (nI qu.length), .int lt, .int pr, .int tl, .int tk, .int sm, .int my, .int gr, .int rc])) := hm
  obtain ⟨h1, h2, h3, h4, h5, h6⟩ := id hr0
  have hq1 := i_rng (mn mA mB)
  have hq2 := i_rng la
  have hq3 := i_rng t
  have hbt : bigI t.toInt := ⟨by omega, by omega⟩
  have hbm : bigI ((mn mA mB).toInt - la.toInt) := ⟨by omega, by omega⟩
  refine j_start (cc := cX5_take) (maxL := 6) (ret := (some .int)) (by decide) rfl [some (.ref m), some (.int 0), some (.int t), some (.int k), some (.int v), none] (Nat.le_of_ble_eq_true rfl) rfl ?_
  intro p e s m0 below meth c X hlk hr hnm
  refine j_iload_n X 2 dX5_take_0 rfl rfl ?_
  refine j_callS X nwSQ_ok (As := [.int t]) (rest := []) rfl (c_X5_isTime l D hI b0 t) rfl gX5_take_X5_isTime ddX5_isTime ⟨Nat.le_of_ble_eq_true rfl, Nat.le_of_ble_eq_true rfl⟩ (Nat.le_of_ble_eq_true rfl) rfl dX5_take_1 ⟨(by show 0 + 0 ≤ 0; omega), (by show 0 + 0 ≤ 0; omega)⟩ (fun r36 M37 n38 hr39 => ?_)
  obtain ⟨rfl, rfl, rfl⟩ := hr39
  refine j_st (st := [.int (if -1000000000 ≤ t ∧ t ≤ 1000000000 then 1 else 0)]) rfl ?_
  refine j_if_ne X 10 dX5_take_4 (by decide) (fun c40 => ?_) (fun c40 => ?_)
  · skip
    refine j_iload_n X 2 dX5_take_10 rfl rfl ?_
    refine j_i2l X dX5_take_11 ?_
    refine j_st (st := [.long (lI t.toInt)]) (by rw [l_of t]) ?_
    refine j_aload_n X 0 dX5_take_12 rfl rfl ?_
    refine j_callV X nwSQ_ok (As := []) (rest := [.long (lI t.toInt)]) hm rfl rfl (c_X5_mark l D hI b0 hm ⟨h1, h2, h3, h4, h5, h6⟩) rfl gX5_take_X5_mark ⟨rfl, ddX5_mark⟩ ⟨Nat.le_of_ble_eq_true rfl, Nat.le_of_ble_eq_true rfl⟩ (Nat.le_of_ble_eq_true rfl) rfl dX5_take_13 ⟨(by show 0 + 0 ≤ 0; omega), (by show 0 + 0 ≤ 0; omega)⟩ (fun r41 M42 n43 hr44 => ?_)
    obtain ⟨rfl, rfl, rfl⟩ := hr44
    refine j_st (st := [.int (mn mA mB), .long (lI t.toInt)]) (by rw [hm0, hm1]; rfl) ?_
    refine j_i2l X dX5_take_16 ?_
    refine j_st (st := [.long (lI (mn mA mB).toInt), .long (lI t.toInt)]) (by rw [l_of (mn mA mB)]) ?_
    refine j_aload_n X 0 dX5_take_17 rfl rfl ?_
    refine j_get X hm rfl iwX5_take_X5 2 (by decide) lkX5_take_67 rfl dX5_take_18 ?_
    refine j_i2l X dX5_take_21 ?_
    refine j_st (st := [.long (lI la.toInt), .long (lI (mn mA mB).toInt), .long (lI t.toInt)]) (by rw [l_of la]) ?_
    refine j_lsub X dX5_take_22 ?_
    refine j_st (st := [.long (lI (((mn mA mB).toInt) - la.toInt)), .long (lI t.toInt)]) (by rw [lI_sub]) ?_
    refine j_lc_ge X 40 dX5_take_23 dX5_take_24 (by decide) (fun c45 => ?_) (fun c45 => ?_)
    · skip
      refine j_aload_n X 0 dX5_take_40 rfl rfl ?_
      refine j_get X hm rfl iwX5_take_X5 9 (by decide) lkX5_take_32 rfl dX5_take_41 ?_
      refine j_iconst X dX5_take_44 (v := 0) (by decide) ?_
      refine j_iald X h4 hI (vp_in_nI (n := 0) (by decide) (by decide)) (v := nI A.length) (hk0) dX5_take_45 ?_
      refine j_aload_n X 0 dX5_take_46 rfl rfl ?_
      refine j_get X hm rfl iwX5_take_X5 9 (by decide) lkX5_take_32 rfl dX5_take_47 ?_
      refine j_iconst X dX5_take_50 (v := 1) (by decide) ?_
      refine j_iald X h4 hI (vp_in_nI (n := 1) (by decide) (by decide)) (v := nI B.length) (hk1) dX5_take_51 ?_
      refine j_iadd X dX5_take_52 ?_
      refine j_st (st := [.int (nI (A.length + B.length))]) (by rw [show (nI A.length) + (nI B.length) = nI (A.length + B.length) from nI_add _ _]) ?_
      refine j_aload_n X 0 dX5_take_53 rfl rfl ?_
      refine j_get X hm rfl iwX5_take_X5 4 (by decide) lkX5_take_16 rfl dX5_take_54 ?_
      refine j_icmp_eq X 82 dX5_take_57 (by decide) (fun c46 => ?_) (fun c46 => ?_)
      · skip
        exact absurd c46 hR
      · skip
        refine j_aload_n X 0 dX5_take_60 rfl rfl ?_
        refine j_get X hm rfl iwX5_take_X5 12 (by decide) lkX5_take_45 rfl dX5_take_61 ?_
        refine j_aload_n X 0 dX5_take_64 rfl rfl ?_
        refine j_iload_n X 1 dX5_take_65 rfl rfl ?_
        refine j_iload_n X 2 dX5_take_66 rfl rfl ?_
        refine j_iload_n X 3 dX5_take_67 rfl rfl ?_
        refine j_iload X dX5_take_68 rfl ?_
        refine j_iconst X dX5_take_70 (v := 0) (by decide) ?_
        refine j_callV X nwSQ_ok (As := [.int 0, .int t, .int k, .int v, .int 0]) (rest := [.int (nI qu.length)]) hm rfl rfl (c_X5_evA0 l D hI b0 hm ⟨h1, h2, h3, h4, h5, h6⟩ ⟨hk0, hk1, hm0, hm1, hlA, hlB, hlQ, hA, hB, hQ⟩ t k v ⟨i_le.mp hT.1, i_le.mp hT.2⟩ hTA hTB hown) rfl gX5_take_X5_event ⟨rfl, ddX5_event⟩ ⟨Nat.le_of_ble_eq_true rfl, Nat.le_of_ble_eq_true rfl⟩ (Nat.le_of_ble_eq_true rfl) rfl dX5_take_71 ⟨(by show 0 + 0 ≤ 0; omega), (by show 0 + 0 ≤ 0; omega)⟩ (fun r47 M48 n49 hr50 => ?_)
        obtain ⟨rfl, rfl, hm2, hr2, hf2⟩ := hr50
        refine j_st (st := [.int (nI (B.countP (nr t k sp))), .int (nI qu.length)]) rfl ?_
        have hm2 : M48 m = some (.inr (5, [.int w, .int sl, .int la, .int sp, .int rm, .int ln, .ref (m + 1), .ref (m + 2), .ref (m + 3), .ref (m + 4), .ref (m + 5), .ref (m + 6), .int (nI qu.length), .int lt, .int pr, .int tl, .int tk, .int sm, .int my, .int gr, .int rc])) := hm2
        obtain ⟨e1, e2, e3, e4, e5, e6⟩ := id hr2
        refine j_iadd X dX5_take_74 ?_
        refine j_st (st := [.int (nI (qu.length + (B.countP (nr t k sp))))]) (by rw [show (nI qu.length) + (nI (B.countP (nr t k sp))) = nI (qu.length + (B.countP (nr t k sp))) from nI_add _ _]) ?_
        refine j_aload_n X 0 dX5_take_75 rfl rfl ?_
        refine j_get X hm2 rfl iwX5_take_X5 5 (by decide) lkX5_take_19 rfl dX5_take_76 ?_
        refine j_icmp_le X 85 dX5_take_79 (by decide) (fun c51 => ?_) (fun c51 => ?_)
        · skip
          exact absurd c51 hN
        · skip
          refine j_bipush X dX5_take_82 (v := (-3)) (by decide) ?_
          exact j_iret X hlk hr (by omega) (by omega) dX5_take_84 ⟨rfl, rfl, ⟨sm, my, gr, rc, _, _, _, kp, mk, qa, hm2, ⟨e1, e2, e3, e4, e5, e6⟩, ⟨hk0, hk1, hm0, hm1, hlA, hlB, hlQ, (fun i hi => by rw [pk_un (by omega), pk_un (by omega), pk_un (by omega)]; exact hA i hi), (fun i hi => by rw [pk_un (by omega), pk_un (by omega), pk_un (by omega)]; exact hB i hi), hQ⟩⟩, fun q hq => by rw [hf2 _ (by omega)]⟩
    · skip
      exact absurd ((lI_le hbm hbt).mpr hL) c45
  · skip
    exact absurd hT (zo_eq.mp c40)
set_option maxHeartbeats 800000 in
set_option maxRecDepth 100000 in
theorem c_X5_takeAP (l : Launch) (D : va_G) {ty : jT} {cA : ClassId} (hI : ty[0]? = some (cA, .int)) (b0 : Nat) {M : jM} {n m : Nat} {w sl la sp rm ln mA mB lt pr tl tk : Int32} {A B : List Ev} {qu : List Rec} (h : RF M m w sl la sp rm ln mA mB lt pr tl tk A B qu) (t k v : Int32) (hTA : ∀ e ∈ A, -1000000000 ≤ e.1.toInt ∧ e.1.toInt ≤ 1000000000) (hTB : ∀ e ∈ B, -1000000000 ≤ e.1.toInt ∧ e.1.toInt ≤ 1000000000) (hT : (-1000000000 ≤ t ∧ t ≤ 1000000000)) (hL : (mn mA mB).toInt - la.toInt ≤ t.toInt) (hR : ¬ nI (A.length + B.length) = rm) (hN : nI (qu.length + B.countP (nr t k sp)) ≤ ln) (hq4 : qu.length + B.countP (nr t k sp) ≤ 400) (hown : A.length < 200) : Ct l D ty vwCl nwSQ b0 yX5_take wsX5_take 2 58 0 0 [.ref m, .int 0, .int t, .int k, .int v] M n (fun r M' n' => r = some (.int (nI (B.countP (nr t k sp)))) ∧ n = n' ∧ RF M' m w sl la sp rm ln mA mB lt (pr + nI (B.countP (nr t k sp))) tl (tk + 1) (A ++ [(t, k, v)]) B (qu ++ (B.filter (nr t k sp)).map (fun e : Ev => ((2, t, e.1, k, v, e.2.2) : Rec))) ∧ ∀ q, (q < m ∨ m + 6 < q) → M' q = M q) := by
  obtain ⟨sm, my, gr, rc, ft, fk, fv, kp, mk, qa, hm, hr0, hk0, hk1, hm0, hm1, hlA, hlB, hlQ, hA, hB, hQ⟩ := id h
  have hm : M m = some (.inr (5, [.int w, .int sl, .int la, .int sp, .int rm, .int ln, .ref (m + 1), .ref (m + 2), .ref (m + 3), .ref (m + 4), .ref (m + 5), .ref (m + 6), .int (nI qu.length), .int lt, .int pr, .int tl, .int tk, .int sm, .int my, .int gr, .int rc])) := hm
  obtain ⟨h1, h2, h3, h4, h5, h6⟩ := id hr0
  have hq1 := i_rng (mn mA mB)
  have hq2 := i_rng la
  have hq3 := i_rng t
  have hbt : bigI t.toInt := ⟨by omega, by omega⟩
  have hbm : bigI ((mn mA mB).toInt - la.toInt) := ⟨by omega, by omega⟩
  refine j_start (cc := cX5_take) (maxL := 6) (ret := (some .int)) (by decide) rfl [some (.ref m), some (.int 0), some (.int t), some (.int k), some (.int v), none] (Nat.le_of_ble_eq_true rfl) rfl ?_
  intro p e s m0 below meth c X hlk hr hnm
  refine j_iload_n X 2 dX5_take_0 rfl rfl ?_
  refine j_callS X nwSQ_ok (As := [.int t]) (rest := []) rfl (c_X5_isTime l D hI b0 t) rfl gX5_take_X5_isTime ddX5_isTime ⟨Nat.le_of_ble_eq_true rfl, Nat.le_of_ble_eq_true rfl⟩ (Nat.le_of_ble_eq_true rfl) rfl dX5_take_1 ⟨(by show 0 + 0 ≤ 0; omega), (by show 0 + 0 ≤ 0; omega)⟩ (fun r52 M53 n54 hr55 => ?_)
  obtain ⟨rfl, rfl, rfl⟩ := hr55
  refine j_st (st := [.int (if -1000000000 ≤ t ∧ t ≤ 1000000000 then 1 else 0)]) rfl ?_
  refine j_if_ne X 10 dX5_take_4 (by decide) (fun c56 => ?_) (fun c56 => ?_)
  · skip
    refine j_iload_n X 2 dX5_take_10 rfl rfl ?_
    refine j_i2l X dX5_take_11 ?_
    refine j_st (st := [.long (lI t.toInt)]) (by rw [l_of t]) ?_
    refine j_aload_n X 0 dX5_take_12 rfl rfl ?_
    refine j_callV X nwSQ_ok (As := []) (rest := [.long (lI t.toInt)]) hm rfl rfl (c_X5_mark l D hI b0 hm ⟨h1, h2, h3, h4, h5, h6⟩) rfl gX5_take_X5_mark ⟨rfl, ddX5_mark⟩ ⟨Nat.le_of_ble_eq_true rfl, Nat.le_of_ble_eq_true rfl⟩ (Nat.le_of_ble_eq_true rfl) rfl dX5_take_13 ⟨(by show 0 + 0 ≤ 0; omega), (by show 0 + 0 ≤ 0; omega)⟩ (fun r57 M58 n59 hr60 => ?_)
    obtain ⟨rfl, rfl, rfl⟩ := hr60
    refine j_st (st := [.int (mn mA mB), .long (lI t.toInt)]) (by rw [hm0, hm1]; rfl) ?_
    refine j_i2l X dX5_take_16 ?_
    refine j_st (st := [.long (lI (mn mA mB).toInt), .long (lI t.toInt)]) (by rw [l_of (mn mA mB)]) ?_
    refine j_aload_n X 0 dX5_take_17 rfl rfl ?_
    refine j_get X hm rfl iwX5_take_X5 2 (by decide) lkX5_take_67 rfl dX5_take_18 ?_
    refine j_i2l X dX5_take_21 ?_
    refine j_st (st := [.long (lI la.toInt), .long (lI (mn mA mB).toInt), .long (lI t.toInt)]) (by rw [l_of la]) ?_
    refine j_lsub X dX5_take_22 ?_
    refine j_st (st := [.long (lI (((mn mA mB).toInt) - la.toInt)), .long (lI t.toInt)]) (by rw [lI_sub]) ?_
    refine j_lc_ge X 40 dX5_take_23 dX5_take_24 (by decide) (fun c61 => ?_) (fun c61 => ?_)
    · skip
      refine j_aload_n X 0 dX5_take_40 rfl rfl ?_
      refine j_get X hm rfl iwX5_take_X5 9 (by decide) lkX5_take_32 rfl dX5_take_41 ?_
      refine j_iconst X dX5_take_44 (v := 0) (by decide) ?_
      refine j_iald X h4 hI (vp_in_nI (n := 0) (by decide) (by decide)) (v := nI A.length) (hk0) dX5_take_45 ?_
      refine j_aload_n X 0 dX5_take_46 rfl rfl ?_
      refine j_get X hm rfl iwX5_take_X5 9 (by decide) lkX5_take_32 rfl dX5_take_47 ?_
      refine j_iconst X dX5_take_50 (v := 1) (by decide) ?_
      refine j_iald X h4 hI (vp_in_nI (n := 1) (by decide) (by decide)) (v := nI B.length) (hk1) dX5_take_51 ?_
      refine j_iadd X dX5_take_52 ?_
      refine j_st (st := [.int (nI (A.length + B.length))]) (by rw [show (nI A.length) + (nI B.length) = nI (A.length + B.length) from nI_add _ _]) ?_
      refine j_aload_n X 0 dX5_take_53 rfl rfl ?_
      refine j_get X hm rfl iwX5_take_X5 4 (by decide) lkX5_take_16 rfl dX5_take_54 ?_
      refine j_icmp_eq X 82 dX5_take_57 (by decide) (fun c62 => ?_) (fun c62 => ?_)
      · skip
        exact absurd c62 hR
      · skip
        refine j_aload_n X 0 dX5_take_60 rfl rfl ?_
        refine j_get X hm rfl iwX5_take_X5 12 (by decide) lkX5_take_45 rfl dX5_take_61 ?_
        refine j_aload_n X 0 dX5_take_64 rfl rfl ?_
        refine j_iload_n X 1 dX5_take_65 rfl rfl ?_
        refine j_iload_n X 2 dX5_take_66 rfl rfl ?_
        refine j_iload_n X 3 dX5_take_67 rfl rfl ?_
        refine j_iload X dX5_take_68 rfl ?_
        refine j_iconst X dX5_take_70 (v := 0) (by decide) ?_
        refine j_callV X nwSQ_ok (As := [.int 0, .int t, .int k, .int v, .int 0]) (rest := [.int (nI qu.length)]) hm rfl rfl (c_X5_evA0 l D hI b0 hm ⟨h1, h2, h3, h4, h5, h6⟩ ⟨hk0, hk1, hm0, hm1, hlA, hlB, hlQ, hA, hB, hQ⟩ t k v ⟨i_le.mp hT.1, i_le.mp hT.2⟩ hTA hTB hown) rfl gX5_take_X5_event ⟨rfl, ddX5_event⟩ ⟨Nat.le_of_ble_eq_true rfl, Nat.le_of_ble_eq_true rfl⟩ (Nat.le_of_ble_eq_true rfl) rfl dX5_take_71 ⟨(by show 0 + 0 ≤ 0; omega), (by show 0 + 0 ≤ 0; omega)⟩ (fun r63 M64 n65 hr66 => ?_)
        obtain ⟨rfl, rfl, hm2, hr2, hf2⟩ := hr66
        refine j_st (st := [.int (nI (B.countP (nr t k sp))), .int (nI qu.length)]) rfl ?_
        have hm2 : M64 m = some (.inr (5, [.int w, .int sl, .int la, .int sp, .int rm, .int ln, .ref (m + 1), .ref (m + 2), .ref (m + 3), .ref (m + 4), .ref (m + 5), .ref (m + 6), .int (nI qu.length), .int lt, .int pr, .int tl, .int tk, .int sm, .int my, .int gr, .int rc])) := hm2
        obtain ⟨e1, e2, e3, e4, e5, e6⟩ := id hr2
        refine j_iadd X dX5_take_74 ?_
        refine j_st (st := [.int (nI (qu.length + (B.countP (nr t k sp))))]) (by rw [show (nI qu.length) + (nI (B.countP (nr t k sp))) = nI (qu.length + (B.countP (nr t k sp))) from nI_add _ _]) ?_
        refine j_aload_n X 0 dX5_take_75 rfl rfl ?_
        refine j_get X hm2 rfl iwX5_take_X5 5 (by decide) lkX5_take_19 rfl dX5_take_76 ?_
        refine j_icmp_le X 85 dX5_take_79 (by decide) (fun c67 => ?_) (fun c67 => ?_)
        · skip
          refine j_aload_n X 0 dX5_take_85 rfl rfl ?_
          refine j_iload_n X 1 dX5_take_86 rfl rfl ?_
          refine j_iload_n X 2 dX5_take_87 rfl rfl ?_
          refine j_iload_n X 3 dX5_take_88 rfl rfl ?_
          refine j_iload X dX5_take_89 rfl ?_
          refine j_iconst X dX5_take_91 (v := 1) (by decide) ?_
          refine j_callV X nwSQ_ok (As := [.int 0, .int t, .int k, .int v, .int 1]) (rest := []) hm2 rfl rfl (c_X5_evA1 l D hI b0 hm2 ⟨e1, e2, e3, e4, e5, e6⟩ ⟨hk0, hk1, hm0, hm1, hlA, hlB, hlQ, (fun i hi => by rw [pk_un (by omega), pk_un (by omega), pk_un (by omega)]; exact hA i hi), (fun i hi => by rw [pk_un (by omega), pk_un (by omega), pk_un (by omega)]; exact hB i hi), hQ⟩ t k v ⟨i_le.mp hT.1, i_le.mp hT.2⟩ hTA hTB hown hq4) rfl gX5_take_X5_event ⟨rfl, ddX5_event⟩ ⟨Nat.le_of_ble_eq_true rfl, Nat.le_of_ble_eq_true rfl⟩ (Nat.le_of_ble_eq_true rfl) rfl dX5_take_92 ⟨(by show 0 + 0 ≤ 0; omega), (by show 0 + 0 ≤ 0; omega)⟩ (fun r68 M69 n70 hr71 => ?_)
          obtain ⟨rfl, rfl, qb, hm3, hr3, hq3, hf3⟩ := hr71
          refine j_st (st := [.int (nI (B.countP (nr t k sp)))]) rfl ?_
          have hm3 : M69 m = some (.inr (5, [.int w, .int sl, .int la, .int sp, .int rm, .int ln, .ref (m + 1), .ref (m + 2), .ref (m + 3), .ref (m + 4), .ref (m + 5), .ref (m + 6), .int (nI (qu ++ (B.filter (nr t k sp)).map (fun e : Ev => ((2, t, e.1, k, v, e.2.2) : Rec))).length), .int lt, .int pr, .int tl, .int tk, .int sm, .int my, .int gr, .int rc])) := hm3
          rw [up_up, up_up, up_up] at hr3
          obtain ⟨g1, g2, g3, g4, g5, g6⟩ := id hr3
          refine j_istore X dX5_take_95 (by decide) rfl (L' := [some (.ref m), some (.int 0), some (.int t), some (.int k), some (.int v), some (.int (nI (B.countP (nr t k sp))))]) rfl ?_
          refine j_aload_n X 0 dX5_take_97 rfl rfl ?_
          refine j_get X hm3 rfl iwX5_take_X5 9 (by decide) lkX5_take_32 rfl dX5_take_98 ?_
          refine j_iload_n X 1 dX5_take_101 rfl rfl ?_
          refine j_dup2 X dX5_take_102 rfl rfl ?_
          refine j_iald X g4 hI (vp_in_nI (n := 0) (by decide) (by decide)) (v := nI A.length) (hk0) dX5_take_103 ?_
          refine j_iconst X dX5_take_104 (v := 1) (by decide) ?_
          refine j_iadd X dX5_take_105 ?_
          refine j_st (st := [.int (nI (A.length + 1)), .int 0, .ref (m + 4)]) (by rw [show (nI A.length) + 1 = nI (A.length + 1) from nI_add _ 1]) ?_
          refine j_iast X g4 hI (vp_in_nI (n := 0) (by decide) (by decide)) dX5_take_106 ?_
          rw [show (0 : Int32).toNatClampNeg = 0 from by decide]
          generalize eM72 : j_up M69 (m + 4) (.inl (0, 2, .inl (upd kp 0 (nI (A.length + 1))))) = M72
          have h73 : M72 m = some (.inr (5, [.int w, .int sl, .int la, .int sp, .int rm, .int ln, .ref (m + 1), .ref (m + 2), .ref (m + 3), .ref (m + 4), .ref (m + 5), .ref (m + 6), .int (nI (qu ++ (B.filter (nr t k sp)).map (fun e : Ev => ((2, t, e.1, k, v, e.2.2) : Rec))).length), .int lt, .int pr, .int tl, .int tk, .int sm, .int my, .int gr, .int rc])) := by rw [← eM72, j_up_ne _ _ (by omega)]; exact hm3
          have h74 : M72 (m + 1) = some (.inl (0, 400, .inl (upd ft (A.length) t))) := by rw [← eM72, j_up_ne _ _ (by omega)]; exact g1
          have h75 : M72 (m + 2) = some (.inl (0, 400, .inl (upd fk (A.length) k))) := by rw [← eM72, j_up_ne _ _ (by omega)]; exact g2
          have h76 : M72 (m + 3) = some (.inl (0, 400, .inl (upd fv (A.length) v))) := by rw [← eM72, j_up_ne _ _ (by omega)]; exact g3
          have h78 : M72 (m + 5) = some (.inl (0, 2, .inl mk)) := by rw [← eM72, j_up_ne _ _ (by omega)]; exact g5
          have h79 : M72 (m + 6) = some (.inl (0, 2400, .inl qb)) := by rw [← eM72, j_up_ne _ _ (by omega)]; exact g6
          have h80 : M72 (m + 4) = some (.inl (0, 2, .inl (upd kp 0 (nI (A.length + 1))))) := by rw [← eM72]; exact j_up_self _ _ _
          refine j_aload_n X 0 dX5_take_107 rfl rfl ?_
          refine j_dup X dX5_take_108 rfl ?_
          refine j_get X h73 rfl iwX5_take_X5 14 (by decide) lkX5_take_51 rfl dX5_take_109 ?_
          refine j_iload X dX5_take_112 rfl ?_
          refine j_iadd X dX5_take_114 ?_
          refine j_put X h73 rfl iwX5_take_X5 tyX5 tyX5_ok nmX5 14 (by decide) lkX5_take_51 rfl rfl rfl (Nat.le_of_ble_eq_true rfl) (fs' := [.int w, .int sl, .int la, .int sp, .int rm, .int ln, .ref (m + 1), .ref (m + 2), .ref (m + 3), .ref (m + 4), .ref (m + 5), .ref (m + 6), .int (nI (qu ++ (B.filter (nr t k sp)).map (fun e : Ev => ((2, t, e.1, k, v, e.2.2) : Rec))).length), .int lt, .int (pr + (nI (B.countP (nr t k sp)))), .int tl, .int tk, .int sm, .int my, .int gr, .int rc]) rfl dX5_take_115 ?_
          generalize eM81 : j_up M72 m (.inr (5, [.int w, .int sl, .int la, .int sp, .int rm, .int ln, .ref (m + 1), .ref (m + 2), .ref (m + 3), .ref (m + 4), .ref (m + 5), .ref (m + 6), .int (nI (qu ++ (B.filter (nr t k sp)).map (fun e : Ev => ((2, t, e.1, k, v, e.2.2) : Rec))).length), .int lt, .int (pr + (nI (B.countP (nr t k sp)))), .int tl, .int tk, .int sm, .int my, .int gr, .int rc])) = M81
          have h83 : M81 (m + 1) = some (.inl (0, 400, .inl (upd ft (A.length) t))) := by rw [← eM81, j_up_ne _ _ (by omega)]; exact h74
          have h84 : M81 (m + 2) = some (.inl (0, 400, .inl (upd fk (A.length) k))) := by rw [← eM81, j_up_ne _ _ (by omega)]; exact h75
          have h85 : M81 (m + 3) = some (.inl (0, 400, .inl (upd fv (A.length) v))) := by rw [← eM81, j_up_ne _ _ (by omega)]; exact h76
          have h86 : M81 (m + 5) = some (.inl (0, 2, .inl mk)) := by rw [← eM81, j_up_ne _ _ (by omega)]; exact h78
          have h87 : M81 (m + 6) = some (.inl (0, 2400, .inl qb)) := by rw [← eM81, j_up_ne _ _ (by omega)]; exact h79
          have h88 : M81 (m + 4) = some (.inl (0, 2, .inl (upd kp 0 (nI (A.length + 1))))) := by rw [← eM81, j_up_ne _ _ (by omega)]; exact h80
          have h89 : M81 m = some (.inr (5, [.int w, .int sl, .int la, .int sp, .int rm, .int ln, .ref (m + 1), .ref (m + 2), .ref (m + 3), .ref (m + 4), .ref (m + 5), .ref (m + 6), .int (nI (qu ++ (B.filter (nr t k sp)).map (fun e : Ev => ((2, t, e.1, k, v, e.2.2) : Rec))).length), .int lt, .int (pr + (nI (B.countP (nr t k sp)))), .int tl, .int tk, .int sm, .int my, .int gr, .int rc])) := by rw [← eM81]; exact j_up_self _ _ _
          refine j_aload_n X 0 dX5_take_118 rfl rfl ?_
          refine j_dup X dX5_take_119 rfl ?_
          refine j_get X h89 rfl iwX5_take_X5 16 (by decide) lkX5_take_57 rfl dX5_take_120 ?_
          refine j_iconst X dX5_take_123 (v := 1) (by decide) ?_
          refine j_iadd X dX5_take_124 ?_
          refine j_put X h89 rfl iwX5_take_X5 tyX5 tyX5_ok nmX5 16 (by decide) lkX5_take_57 rfl rfl rfl (Nat.le_of_ble_eq_true rfl) (fs' := [.int w, .int sl, .int la, .int sp, .int rm, .int ln, .ref (m + 1), .ref (m + 2), .ref (m + 3), .ref (m + 4), .ref (m + 5), .ref (m + 6), .int (nI (qu ++ (B.filter (nr t k sp)).map (fun e : Ev => ((2, t, e.1, k, v, e.2.2) : Rec))).length), .int lt, .int (pr + (nI (B.countP (nr t k sp)))), .int tl, .int (tk + 1), .int sm, .int my, .int gr, .int rc]) rfl dX5_take_125 ?_
          generalize eM90 : j_up M81 m (.inr (5, [.int w, .int sl, .int la, .int sp, .int rm, .int ln, .ref (m + 1), .ref (m + 2), .ref (m + 3), .ref (m + 4), .ref (m + 5), .ref (m + 6), .int (nI (qu ++ (B.filter (nr t k sp)).map (fun e : Ev => ((2, t, e.1, k, v, e.2.2) : Rec))).length), .int lt, .int (pr + (nI (B.countP (nr t k sp)))), .int tl, .int (tk + 1), .int sm, .int my, .int gr, .int rc])) = M90
          have h91 : M90 (m + 1) = some (.inl (0, 400, .inl (upd ft (A.length) t))) := by rw [← eM90, j_up_ne _ _ (by omega)]; exact h83
          have h92 : M90 (m + 2) = some (.inl (0, 400, .inl (upd fk (A.length) k))) := by rw [← eM90, j_up_ne _ _ (by omega)]; exact h84
          have h93 : M90 (m + 3) = some (.inl (0, 400, .inl (upd fv (A.length) v))) := by rw [← eM90, j_up_ne _ _ (by omega)]; exact h85
          have h94 : M90 (m + 5) = some (.inl (0, 2, .inl mk)) := by rw [← eM90, j_up_ne _ _ (by omega)]; exact h86
          have h95 : M90 (m + 6) = some (.inl (0, 2400, .inl qb)) := by rw [← eM90, j_up_ne _ _ (by omega)]; exact h87
          have h96 : M90 (m + 4) = some (.inl (0, 2, .inl (upd kp 0 (nI (A.length + 1))))) := by rw [← eM90, j_up_ne _ _ (by omega)]; exact h88
          have h98 : M90 m = some (.inr (5, [.int w, .int sl, .int la, .int sp, .int rm, .int ln, .ref (m + 1), .ref (m + 2), .ref (m + 3), .ref (m + 4), .ref (m + 5), .ref (m + 6), .int (nI (qu ++ (B.filter (nr t k sp)).map (fun e : Ev => ((2, t, e.1, k, v, e.2.2) : Rec))).length), .int lt, .int (pr + (nI (B.countP (nr t k sp)))), .int tl, .int (tk + 1), .int sm, .int my, .int gr, .int rc])) := by rw [← eM90]; exact j_up_self _ _ _
          refine j_iload X dX5_take_128 rfl ?_
          exact j_iret X hlk hr (by omega) (by omega) dX5_take_130 ⟨rfl, rfl, ⟨sm, my, gr, rc, _, _, _, _, mk, qb, h98, ⟨h91, h92, h93, h96, h94, h95⟩, by rw [List.length_append]; exact pk_us, (pk_un (by decide)).trans hk1, hm0, hm1, by rw [List.length_append]; show A.length + 1 ≤ 200; omega, hlB, (by rw [List.length_append, List.length_map, ← List.countP_eq_length_filter]; exact hq4), (fun i hi => by have hpp := ev_push2 (bs := 0) (a := t) (b := k) (v := v) (fun i hi => by rw [Nat.zero_add]; exact hA i hi) i hi; rw [Nat.zero_add, Nat.zero_add] at hpp; exact hpp), (fun i hi => by rw [pk_un (by omega), pk_un (by omega), pk_un (by omega)]; exact hB i hi), hq3⟩, fun q hq => by rw [← eM90, j_up_ne _ _ (by omega), ← eM81, j_up_ne _ _ (by omega), ← eM72, j_up_ne _ _ (by omega), hf3 _ (by omega), hf2 _ (by omega)]⟩
        · skip
          exact absurd hN c67
    · skip
      exact absurd ((lI_le hbm hbt).mpr hL) c61
  · skip
    exact absurd hT (zo_eq.mp c56)
set_option maxHeartbeats 800000 in
set_option maxRecDepth 100000 in
theorem c_X5_eAB (l : Launch) (D : va_G) {ty : jT} {cA : ClassId} (hI : ty[0]? = some (cA, .int)) (b0 : Nat) {M : jM} {n m : Nat} {w sl la sp rm ln mA mB lt pr tl tk : Int32} {A B : List Ev} {qu : List Rec} (h : RF M m w sl la sp rm ln mA mB lt pr tl tk A B qu) (t k v : Int32) (hT : ¬ (-1000000000 ≤ t ∧ t ≤ 1000000000)) : Ct l D ty vwCl nwSQ b0 yX5_eventA wsX5_eventA 3 83 0 0 [.ref m, .int t, .int k, .int v] M n (j_rd (.int (-2)) M n) := by
  obtain ⟨sm, my, gr, rc, ft, fk, fv, kp, mk, qa, hm, hr0, hk0, hk1, hm0, hm1, hlA, hlB, hlQ, hA, hB, hQ⟩ := id h
  have hm : M m = some (.inr (5, [.int w, .int sl, .int la, .int sp, .int rm, .int ln, .ref (m + 1), .ref (m + 2), .ref (m + 3), .ref (m + 4), .ref (m + 5), .ref (m + 6), .int (nI qu.length), .int lt, .int pr, .int tl, .int tk, .int sm, .int my, .int gr, .int rc])) := hm
  obtain ⟨h1, h2, h3, h4, h5, h6⟩ := id hr0
  refine j_start (cc := cX5_eventA) (maxL := 4) (ret := (some .int)) (by decide) rfl [some (.ref m), some (.int t), some (.int k), some (.int v)] (Nat.le_of_ble_eq_true rfl) rfl ?_
  intro p e s m0 below meth c X hlk hr hnm
  refine j_aload_n X 0 dX5_eventA_0 rfl rfl ?_
  refine j_iconst X dX5_eventA_1 (v := 0) (by decide) ?_
  refine j_iload_n X 1 dX5_eventA_2 rfl rfl ?_
  refine j_iload_n X 2 dX5_eventA_3 rfl rfl ?_
  refine j_iload_n X 3 dX5_eventA_4 rfl rfl ?_
  refine j_callV X nwSQ_ok (As := [.int 0, .int t, .int k, .int v]) (rest := []) hm rfl rfl (c_X5_takeAB l D hI b0 h t k v hT) rfl gX5_eventA_X5_take ⟨rfl, ddX5_take⟩ ⟨Nat.le_of_ble_eq_true rfl, Nat.le_of_ble_eq_true rfl⟩ (Nat.le_of_ble_eq_true rfl) rfl dX5_eventA_5 ⟨(by show 0 + 0 ≤ 0; omega), (by show 0 + 0 ≤ 0; omega)⟩ (fun r99 M100 n101 hr102 => ?_)
  obtain ⟨rfl, rfl, rfl⟩ := hr102
  refine j_st (st := [.int (-2)]) rfl ?_
  exact j_iret X hlk hr (by omega) (by omega) dX5_eventA_8 ⟨rfl, rfl, rfl⟩
set_option maxHeartbeats 800000 in
set_option maxRecDepth 100000 in
theorem c_X5_eAL (l : Launch) (D : va_G) {ty : jT} {cA : ClassId} (hI : ty[0]? = some (cA, .int)) (b0 : Nat) {M : jM} {n m : Nat} {w sl la sp rm ln mA mB lt pr tl tk : Int32} {A B : List Ev} {qu : List Rec} (h : RF M m w sl la sp rm ln mA mB lt pr tl tk A B qu) (t k v : Int32) (hT : (-1000000000 ≤ t ∧ t ≤ 1000000000)) (hL : ¬ (mn mA mB).toInt - la.toInt ≤ t.toInt) : Ct l D ty vwCl nwSQ b0 yX5_eventA wsX5_eventA 3 83 0 0 [.ref m, .int t, .int k, .int v] M n (fun r M' n' => r = some (.int (-4)) ∧ n = n' ∧ RF M' m w sl la sp rm ln mA mB (lt + 1) pr tl tk A B qu ∧ ∀ q, (q < m ∨ m + 6 < q) → M' q = M q) := by
  obtain ⟨sm, my, gr, rc, ft, fk, fv, kp, mk, qa, hm, hr0, hk0, hk1, hm0, hm1, hlA, hlB, hlQ, hA, hB, hQ⟩ := id h
  have hm : M m = some (.inr (5, [.int w, .int sl, .int la, .int sp, .int rm, .int ln, .ref (m + 1), .ref (m + 2), .ref (m + 3), .ref (m + 4), .ref (m + 5), .ref (m + 6), .int (nI qu.length), .int lt, .int pr, .int tl, .int tk, .int sm, .int my, .int gr, .int rc])) := hm
  obtain ⟨h1, h2, h3, h4, h5, h6⟩ := id hr0
  refine j_start (cc := cX5_eventA) (maxL := 4) (ret := (some .int)) (by decide) rfl [some (.ref m), some (.int t), some (.int k), some (.int v)] (Nat.le_of_ble_eq_true rfl) rfl ?_
  intro p e s m0 below meth c X hlk hr hnm
  refine j_aload_n X 0 dX5_eventA_0 rfl rfl ?_
  refine j_iconst X dX5_eventA_1 (v := 0) (by decide) ?_
  refine j_iload_n X 1 dX5_eventA_2 rfl rfl ?_
  refine j_iload_n X 2 dX5_eventA_3 rfl rfl ?_
  refine j_iload_n X 3 dX5_eventA_4 rfl rfl ?_
  refine j_callV X nwSQ_ok (As := [.int 0, .int t, .int k, .int v]) (rest := []) hm rfl rfl (c_X5_takeAL l D hI b0 h t k v hT hL) rfl gX5_eventA_X5_take ⟨rfl, ddX5_take⟩ ⟨Nat.le_of_ble_eq_true rfl, Nat.le_of_ble_eq_true rfl⟩ (Nat.le_of_ble_eq_true rfl) rfl dX5_eventA_5 ⟨(by show 0 + 0 ≤ 0; omega), (by show 0 + 0 ≤ 0; omega)⟩ (fun r103 M104 n105 hr106 => ?_)
  obtain ⟨rfl, rfl, hf1, hf2⟩ := hr106
  refine j_st (st := [.int (-4)]) rfl ?_
  exact j_iret X hlk hr (by omega) (by omega) dX5_eventA_8 ⟨rfl, rfl, hf1, hf2⟩
set_option maxHeartbeats 800000 in
set_option maxRecDepth 100000 in
theorem c_X5_eAF (l : Launch) (D : va_G) {ty : jT} {cA : ClassId} (hI : ty[0]? = some (cA, .int)) (b0 : Nat) {M : jM} {n m : Nat} {w sl la sp rm ln mA mB lt pr tl tk : Int32} {A B : List Ev} {qu : List Rec} (h : RF M m w sl la sp rm ln mA mB lt pr tl tk A B qu) (t k v : Int32) (hT : (-1000000000 ≤ t ∧ t ≤ 1000000000)) (hL : (mn mA mB).toInt - la.toInt ≤ t.toInt) (hR : nI (A.length + B.length) = rm) : Ct l D ty vwCl nwSQ b0 yX5_eventA wsX5_eventA 3 83 0 0 [.ref m, .int t, .int k, .int v] M n (j_rd (.int (-3)) M n) := by
  obtain ⟨sm, my, gr, rc, ft, fk, fv, kp, mk, qa, hm, hr0, hk0, hk1, hm0, hm1, hlA, hlB, hlQ, hA, hB, hQ⟩ := id h
  have hm : M m = some (.inr (5, [.int w, .int sl, .int la, .int sp, .int rm, .int ln, .ref (m + 1), .ref (m + 2), .ref (m + 3), .ref (m + 4), .ref (m + 5), .ref (m + 6), .int (nI qu.length), .int lt, .int pr, .int tl, .int tk, .int sm, .int my, .int gr, .int rc])) := hm
  obtain ⟨h1, h2, h3, h4, h5, h6⟩ := id hr0
  refine j_start (cc := cX5_eventA) (maxL := 4) (ret := (some .int)) (by decide) rfl [some (.ref m), some (.int t), some (.int k), some (.int v)] (Nat.le_of_ble_eq_true rfl) rfl ?_
  intro p e s m0 below meth c X hlk hr hnm
  refine j_aload_n X 0 dX5_eventA_0 rfl rfl ?_
  refine j_iconst X dX5_eventA_1 (v := 0) (by decide) ?_
  refine j_iload_n X 1 dX5_eventA_2 rfl rfl ?_
  refine j_iload_n X 2 dX5_eventA_3 rfl rfl ?_
  refine j_iload_n X 3 dX5_eventA_4 rfl rfl ?_
  refine j_callV X nwSQ_ok (As := [.int 0, .int t, .int k, .int v]) (rest := []) hm rfl rfl (c_X5_takeAF l D hI b0 h t k v hT hL hR) rfl gX5_eventA_X5_take ⟨rfl, ddX5_take⟩ ⟨Nat.le_of_ble_eq_true rfl, Nat.le_of_ble_eq_true rfl⟩ (Nat.le_of_ble_eq_true rfl) rfl dX5_eventA_5 ⟨(by show 0 + 0 ≤ 0; omega), (by show 0 + 0 ≤ 0; omega)⟩ (fun r107 M108 n109 hr110 => ?_)
  obtain ⟨rfl, rfl, rfl⟩ := hr110
  refine j_st (st := [.int (-3)]) rfl ?_
  exact j_iret X hlk hr (by omega) (by omega) dX5_eventA_8 ⟨rfl, rfl, rfl⟩
set_option maxHeartbeats 800000 in
set_option maxRecDepth 100000 in
theorem c_X5_eAQ (l : Launch) (D : va_G) {ty : jT} {cA : ClassId} (hI : ty[0]? = some (cA, .int)) (b0 : Nat) {M : jM} {n m : Nat} {w sl la sp rm ln mA mB lt pr tl tk : Int32} {A B : List Ev} {qu : List Rec} (h : RF M m w sl la sp rm ln mA mB lt pr tl tk A B qu) (t k v : Int32) (hTA : ∀ e ∈ A, -1000000000 ≤ e.1.toInt ∧ e.1.toInt ≤ 1000000000) (hTB : ∀ e ∈ B, -1000000000 ≤ e.1.toInt ∧ e.1.toInt ≤ 1000000000) (hT : (-1000000000 ≤ t ∧ t ≤ 1000000000)) (hL : (mn mA mB).toInt - la.toInt ≤ t.toInt) (hR : ¬ nI (A.length + B.length) = rm) (hN : ¬ nI (qu.length + B.countP (nr t k sp)) ≤ ln) (hown : A.length < 200) : Ct l D ty vwCl nwSQ b0 yX5_eventA wsX5_eventA 3 83 0 0 [.ref m, .int t, .int k, .int v] M n (fun r M' n' => r = some (.int (-3)) ∧ n = n' ∧ RF M' m w sl la sp rm ln mA mB lt pr tl tk A B qu ∧ ∀ q, (q < m ∨ m + 6 < q) → M' q = M q) := by
  obtain ⟨sm, my, gr, rc, ft, fk, fv, kp, mk, qa, hm, hr0, hk0, hk1, hm0, hm1, hlA, hlB, hlQ, hA, hB, hQ⟩ := id h
  have hm : M m = some (.inr (5, [.int w, .int sl, .int la, .int sp, .int rm, .int ln, .ref (m + 1), .ref (m + 2), .ref (m + 3), .ref (m + 4), .ref (m + 5), .ref (m + 6), .int (nI qu.length), .int lt, .int pr, .int tl, .int tk, .int sm, .int my, .int gr, .int rc])) := hm
  obtain ⟨h1, h2, h3, h4, h5, h6⟩ := id hr0
  refine j_start (cc := cX5_eventA) (maxL := 4) (ret := (some .int)) (by decide) rfl [some (.ref m), some (.int t), some (.int k), some (.int v)] (Nat.le_of_ble_eq_true rfl) rfl ?_
  intro p e s m0 below meth c X hlk hr hnm
  refine j_aload_n X 0 dX5_eventA_0 rfl rfl ?_
  refine j_iconst X dX5_eventA_1 (v := 0) (by decide) ?_
  refine j_iload_n X 1 dX5_eventA_2 rfl rfl ?_
  refine j_iload_n X 2 dX5_eventA_3 rfl rfl ?_
  refine j_iload_n X 3 dX5_eventA_4 rfl rfl ?_
  refine j_callV X nwSQ_ok (As := [.int 0, .int t, .int k, .int v]) (rest := []) hm rfl rfl (c_X5_takeAQ l D hI b0 h t k v hTA hTB hT hL hR hN hown) rfl gX5_eventA_X5_take ⟨rfl, ddX5_take⟩ ⟨Nat.le_of_ble_eq_true rfl, Nat.le_of_ble_eq_true rfl⟩ (Nat.le_of_ble_eq_true rfl) rfl dX5_eventA_5 ⟨(by show 0 + 0 ≤ 0; omega), (by show 0 + 0 ≤ 0; omega)⟩ (fun r111 M112 n113 hr114 => ?_)
  obtain ⟨rfl, rfl, hf1, hf2⟩ := hr114
  refine j_st (st := [.int (-3)]) rfl ?_
  exact j_iret X hlk hr (by omega) (by omega) dX5_eventA_8 ⟨rfl, rfl, hf1, hf2⟩
set_option maxHeartbeats 800000 in
set_option maxRecDepth 100000 in
theorem c_X5_eAP (l : Launch) (D : va_G) {ty : jT} {cA : ClassId} (hI : ty[0]? = some (cA, .int)) (b0 : Nat) {M : jM} {n m : Nat} {w sl la sp rm ln mA mB lt pr tl tk : Int32} {A B : List Ev} {qu : List Rec} (h : RF M m w sl la sp rm ln mA mB lt pr tl tk A B qu) (t k v : Int32) (hTA : ∀ e ∈ A, -1000000000 ≤ e.1.toInt ∧ e.1.toInt ≤ 1000000000) (hTB : ∀ e ∈ B, -1000000000 ≤ e.1.toInt ∧ e.1.toInt ≤ 1000000000) (hT : (-1000000000 ≤ t ∧ t ≤ 1000000000)) (hL : (mn mA mB).toInt - la.toInt ≤ t.toInt) (hR : ¬ nI (A.length + B.length) = rm) (hN : nI (qu.length + B.countP (nr t k sp)) ≤ ln) (hq4 : qu.length + B.countP (nr t k sp) ≤ 400) (hown : A.length < 200) : Ct l D ty vwCl nwSQ b0 yX5_eventA wsX5_eventA 3 83 0 0 [.ref m, .int t, .int k, .int v] M n (fun r M' n' => r = some (.int (nI (B.countP (nr t k sp)))) ∧ n = n' ∧ RF M' m w sl la sp rm ln mA mB lt (pr + nI (B.countP (nr t k sp))) tl (tk + 1) (A ++ [(t, k, v)]) B (qu ++ (B.filter (nr t k sp)).map (fun e : Ev => ((2, t, e.1, k, v, e.2.2) : Rec))) ∧ ∀ q, (q < m ∨ m + 6 < q) → M' q = M q) := by
  obtain ⟨sm, my, gr, rc, ft, fk, fv, kp, mk, qa, hm, hr0, hk0, hk1, hm0, hm1, hlA, hlB, hlQ, hA, hB, hQ⟩ := id h
  have hm : M m = some (.inr (5, [.int w, .int sl, .int la, .int sp, .int rm, .int ln, .ref (m + 1), .ref (m + 2), .ref (m + 3), .ref (m + 4), .ref (m + 5), .ref (m + 6), .int (nI qu.length), .int lt, .int pr, .int tl, .int tk, .int sm, .int my, .int gr, .int rc])) := hm
  obtain ⟨h1, h2, h3, h4, h5, h6⟩ := id hr0
  refine j_start (cc := cX5_eventA) (maxL := 4) (ret := (some .int)) (by decide) rfl [some (.ref m), some (.int t), some (.int k), some (.int v)] (Nat.le_of_ble_eq_true rfl) rfl ?_
  intro p e s m0 below meth c X hlk hr hnm
  refine j_aload_n X 0 dX5_eventA_0 rfl rfl ?_
  refine j_iconst X dX5_eventA_1 (v := 0) (by decide) ?_
  refine j_iload_n X 1 dX5_eventA_2 rfl rfl ?_
  refine j_iload_n X 2 dX5_eventA_3 rfl rfl ?_
  refine j_iload_n X 3 dX5_eventA_4 rfl rfl ?_
  refine j_callV X nwSQ_ok (As := [.int 0, .int t, .int k, .int v]) (rest := []) hm rfl rfl (c_X5_takeAP l D hI b0 h t k v hTA hTB hT hL hR hN hq4 hown) rfl gX5_eventA_X5_take ⟨rfl, ddX5_take⟩ ⟨Nat.le_of_ble_eq_true rfl, Nat.le_of_ble_eq_true rfl⟩ (Nat.le_of_ble_eq_true rfl) rfl dX5_eventA_5 ⟨(by show 0 + 0 ≤ 0; omega), (by show 0 + 0 ≤ 0; omega)⟩ (fun r115 M116 n117 hr118 => ?_)
  obtain ⟨rfl, rfl, hf1, hf2⟩ := hr118
  refine j_st (st := [.int (nI (B.countP (nr t k sp)))]) rfl ?_
  exact j_iret X hlk hr (by omega) (by omega) dX5_eventA_8 ⟨rfl, rfl, hf1, hf2⟩
set_option maxHeartbeats 800000 in
set_option maxRecDepth 100000 in
theorem c_X5_takeBB (l : Launch) (D : va_G) {ty : jT} {cA : ClassId} (hI : ty[0]? = some (cA, .int)) (b0 : Nat) {M : jM} {n m : Nat} {w sl la sp rm ln mA mB lt pr tl tk : Int32} {A B : List Ev} {qu : List Rec} (h : RF M m w sl la sp rm ln mA mB lt pr tl tk A B qu) (t k v : Int32) (hT : ¬ (-1000000000 ≤ t ∧ t ≤ 1000000000)) : Ct l D ty vwCl nwSQ b0 yX5_take wsX5_take 2 58 0 0 [.ref m, .int 1, .int t, .int k, .int v] M n (j_rd (.int (-2)) M n) := by
  obtain ⟨sm, my, gr, rc, ft, fk, fv, kp, mk, qa, hm, hr0, hk0, hk1, hm0, hm1, hlA, hlB, hlQ, hA, hB, hQ⟩ := id h
  have hm : M m = some (.inr (5, [.int w, .int sl, .int la, .int sp, .int rm, .int ln, .ref (m + 1), .ref (m + 2), .ref (m + 3), .ref (m + 4), .ref (m + 5), .ref (m + 6), .int (nI qu.length), .int lt, .int pr, .int tl, .int tk, .int sm, .int my, .int gr, .int rc])) := hm
  obtain ⟨h1, h2, h3, h4, h5, h6⟩ := id hr0
  refine j_start (cc := cX5_take) (maxL := 6) (ret := (some .int)) (by decide) rfl [some (.ref m), some (.int 1), some (.int t), some (.int k), some (.int v), none] (Nat.le_of_ble_eq_true rfl) rfl ?_
  intro p e s m0 below meth c X hlk hr hnm
  refine j_iload_n X 2 dX5_take_0 rfl rfl ?_
  refine j_callS X nwSQ_ok (As := [.int t]) (rest := []) rfl (c_X5_isTime l D hI b0 t) rfl gX5_take_X5_isTime ddX5_isTime ⟨Nat.le_of_ble_eq_true rfl, Nat.le_of_ble_eq_true rfl⟩ (Nat.le_of_ble_eq_true rfl) rfl dX5_take_1 ⟨(by show 0 + 0 ≤ 0; omega), (by show 0 + 0 ≤ 0; omega)⟩ (fun r119 M120 n121 hr122 => ?_)
  obtain ⟨rfl, rfl, rfl⟩ := hr122
  refine j_st (st := [.int (if -1000000000 ≤ t ∧ t ≤ 1000000000 then 1 else 0)]) rfl ?_
  refine j_if_ne X 10 dX5_take_4 (by decide) (fun c123 => ?_) (fun c123 => ?_)
  · skip
    exact absurd (zo_ne.mp c123) hT
  · skip
    refine j_bipush X dX5_take_7 (v := (-2)) (by decide) ?_
    exact j_iret X hlk hr (by omega) (by omega) dX5_take_9 ⟨rfl, rfl, rfl⟩
set_option maxHeartbeats 800000 in
set_option maxRecDepth 100000 in
theorem c_X5_takeBL (l : Launch) (D : va_G) {ty : jT} {cA : ClassId} (hI : ty[0]? = some (cA, .int)) (b0 : Nat) {M : jM} {n m : Nat} {w sl la sp rm ln mA mB lt pr tl tk : Int32} {A B : List Ev} {qu : List Rec} (h : RF M m w sl la sp rm ln mA mB lt pr tl tk A B qu) (t k v : Int32) (hT : (-1000000000 ≤ t ∧ t ≤ 1000000000)) (hL : ¬ (mn mA mB).toInt - la.toInt ≤ t.toInt) : Ct l D ty vwCl nwSQ b0 yX5_take wsX5_take 2 58 0 0 [.ref m, .int 1, .int t, .int k, .int v] M n (fun r M' n' => r = some (.int (-4)) ∧ n = n' ∧ RF M' m w sl la sp rm ln mA mB (lt + 1) pr tl tk A B qu ∧ ∀ q, (q < m ∨ m + 6 < q) → M' q = M q) := by
  obtain ⟨sm, my, gr, rc, ft, fk, fv, kp, mk, qa, hm, hr0, hk0, hk1, hm0, hm1, hlA, hlB, hlQ, hA, hB, hQ⟩ := id h
  have hm : M m = some (.inr (5, [.int w, .int sl, .int la, .int sp, .int rm, .int ln, .ref (m + 1), .ref (m + 2), .ref (m + 3), .ref (m + 4), .ref (m + 5), .ref (m + 6), .int (nI qu.length), .int lt, .int pr, .int tl, .int tk, .int sm, .int my, .int gr, .int rc])) := hm
  obtain ⟨h1, h2, h3, h4, h5, h6⟩ := id hr0
  have hq1 := i_rng (mn mA mB)
  have hq2 := i_rng la
  have hq3 := i_rng t
  have hbt : bigI t.toInt := ⟨by omega, by omega⟩
  have hbm : bigI ((mn mA mB).toInt - la.toInt) := ⟨by omega, by omega⟩
  refine j_start (cc := cX5_take) (maxL := 6) (ret := (some .int)) (by decide) rfl [some (.ref m), some (.int 1), some (.int t), some (.int k), some (.int v), none] (Nat.le_of_ble_eq_true rfl) rfl ?_
  intro p e s m0 below meth c X hlk hr hnm
  refine j_iload_n X 2 dX5_take_0 rfl rfl ?_
  refine j_callS X nwSQ_ok (As := [.int t]) (rest := []) rfl (c_X5_isTime l D hI b0 t) rfl gX5_take_X5_isTime ddX5_isTime ⟨Nat.le_of_ble_eq_true rfl, Nat.le_of_ble_eq_true rfl⟩ (Nat.le_of_ble_eq_true rfl) rfl dX5_take_1 ⟨(by show 0 + 0 ≤ 0; omega), (by show 0 + 0 ≤ 0; omega)⟩ (fun r124 M125 n126 hr127 => ?_)
  obtain ⟨rfl, rfl, rfl⟩ := hr127
  refine j_st (st := [.int (if -1000000000 ≤ t ∧ t ≤ 1000000000 then 1 else 0)]) rfl ?_
  refine j_if_ne X 10 dX5_take_4 (by decide) (fun c128 => ?_) (fun c128 => ?_)
  · skip
    refine j_iload_n X 2 dX5_take_10 rfl rfl ?_
    refine j_i2l X dX5_take_11 ?_
    refine j_st (st := [.long (lI t.toInt)]) (by rw [l_of t]) ?_
    refine j_aload_n X 0 dX5_take_12 rfl rfl ?_
    refine j_callV X nwSQ_ok (As := []) (rest := [.long (lI t.toInt)]) hm rfl rfl (c_X5_mark l D hI b0 hm ⟨h1, h2, h3, h4, h5, h6⟩) rfl gX5_take_X5_mark ⟨rfl, ddX5_mark⟩ ⟨Nat.le_of_ble_eq_true rfl, Nat.le_of_ble_eq_true rfl⟩ (Nat.le_of_ble_eq_true rfl) rfl dX5_take_13 ⟨(by show 0 + 0 ≤ 0; omega), (by show 0 + 0 ≤ 0; omega)⟩ (fun r129 M130 n131 hr132 => ?_)
    obtain ⟨rfl, rfl, rfl⟩ := hr132
    refine j_st (st := [.int (mn mA mB), .long (lI t.toInt)]) (by rw [hm0, hm1]; rfl) ?_
    refine j_i2l X dX5_take_16 ?_
    refine j_st (st := [.long (lI (mn mA mB).toInt), .long (lI t.toInt)]) (by rw [l_of (mn mA mB)]) ?_
    refine j_aload_n X 0 dX5_take_17 rfl rfl ?_
    refine j_get X hm rfl iwX5_take_X5 2 (by decide) lkX5_take_67 rfl dX5_take_18 ?_
    refine j_i2l X dX5_take_21 ?_
    refine j_st (st := [.long (lI la.toInt), .long (lI (mn mA mB).toInt), .long (lI t.toInt)]) (by rw [l_of la]) ?_
    refine j_lsub X dX5_take_22 ?_
    refine j_st (st := [.long (lI (((mn mA mB).toInt) - la.toInt)), .long (lI t.toInt)]) (by rw [lI_sub]) ?_
    refine j_lc_ge X 40 dX5_take_23 dX5_take_24 (by decide) (fun c133 => ?_) (fun c133 => ?_)
    · skip
      exact absurd ((lI_le hbm hbt).mp c133) hL
    · skip
      refine j_aload_n X 0 dX5_take_27 rfl rfl ?_
      refine j_dup X dX5_take_28 rfl ?_
      refine j_get X hm rfl iwX5_take_X5 13 (by decide) lkX5_take_48 rfl dX5_take_29 ?_
      refine j_iconst X dX5_take_32 (v := 1) (by decide) ?_
      refine j_iadd X dX5_take_33 ?_
      refine j_put X hm rfl iwX5_take_X5 tyX5 tyX5_ok nmX5 13 (by decide) lkX5_take_48 rfl rfl rfl (Nat.le_of_ble_eq_true rfl) (fs' := [.int w, .int sl, .int la, .int sp, .int rm, .int ln, .ref (m + 1), .ref (m + 2), .ref (m + 3), .ref (m + 4), .ref (m + 5), .ref (m + 6), .int (nI qu.length), .int (lt + 1), .int pr, .int tl, .int tk, .int sm, .int my, .int gr, .int rc]) rfl dX5_take_34 ?_
      generalize eM134 : j_up M m (.inr (5, [.int w, .int sl, .int la, .int sp, .int rm, .int ln, .ref (m + 1), .ref (m + 2), .ref (m + 3), .ref (m + 4), .ref (m + 5), .ref (m + 6), .int (nI qu.length), .int (lt + 1), .int pr, .int tl, .int tk, .int sm, .int my, .int gr, .int rc])) = M134
      have h136 : M134 (m + 1) = some (.inl (0, 400, .inl ft)) := by rw [← eM134, j_up_ne _ _ (by omega)]; exact h1
      have h137 : M134 (m + 2) = some (.inl (0, 400, .inl fk)) := by rw [← eM134, j_up_ne _ _ (by omega)]; exact h2
      have h138 : M134 (m + 3) = some (.inl (0, 400, .inl fv)) := by rw [← eM134, j_up_ne _ _ (by omega)]; exact h3
      have h139 : M134 (m + 4) = some (.inl (0, 2, .inl kp)) := by rw [← eM134, j_up_ne _ _ (by omega)]; exact h4
      have h140 : M134 (m + 5) = some (.inl (0, 2, .inl mk)) := by rw [← eM134, j_up_ne _ _ (by omega)]; exact h5
      have h141 : M134 (m + 6) = some (.inl (0, 2400, .inl qa)) := by rw [← eM134, j_up_ne _ _ (by omega)]; exact h6
      have h142 : M134 m = some (.inr (5, [.int w, .int sl, .int la, .int sp, .int rm, .int ln, .ref (m + 1), .ref (m + 2), .ref (m + 3), .ref (m + 4), .ref (m + 5), .ref (m + 6), .int (nI qu.length), .int (lt + 1), .int pr, .int tl, .int tk, .int sm, .int my, .int gr, .int rc])) := by rw [← eM134]; exact j_up_self _ _ _
      refine j_bipush X dX5_take_37 (v := (-4)) (by decide) ?_
      exact j_iret X hlk hr (by omega) (by omega) dX5_take_39 ⟨rfl, rfl, ⟨sm, my, gr, rc, ft, fk, fv, kp, mk, qa, h142, ⟨h136, h137, h138, h139, h140, h141⟩, hk0, hk1, hm0, hm1, hlA, hlB, hlQ, hA, hB, hQ⟩, fun q hq => by rw [← eM134, j_up_ne _ _ (by omega)]⟩
  · skip
    exact absurd hT (zo_eq.mp c128)
set_option maxHeartbeats 800000 in
set_option maxRecDepth 100000 in
theorem c_X5_takeBF (l : Launch) (D : va_G) {ty : jT} {cA : ClassId} (hI : ty[0]? = some (cA, .int)) (b0 : Nat) {M : jM} {n m : Nat} {w sl la sp rm ln mA mB lt pr tl tk : Int32} {A B : List Ev} {qu : List Rec} (h : RF M m w sl la sp rm ln mA mB lt pr tl tk A B qu) (t k v : Int32) (hT : (-1000000000 ≤ t ∧ t ≤ 1000000000)) (hL : (mn mA mB).toInt - la.toInt ≤ t.toInt) (hR : nI (A.length + B.length) = rm) : Ct l D ty vwCl nwSQ b0 yX5_take wsX5_take 2 58 0 0 [.ref m, .int 1, .int t, .int k, .int v] M n (j_rd (.int (-3)) M n) := by
  obtain ⟨sm, my, gr, rc, ft, fk, fv, kp, mk, qa, hm, hr0, hk0, hk1, hm0, hm1, hlA, hlB, hlQ, hA, hB, hQ⟩ := id h
  have hm : M m = some (.inr (5, [.int w, .int sl, .int la, .int sp, .int rm, .int ln, .ref (m + 1), .ref (m + 2), .ref (m + 3), .ref (m + 4), .ref (m + 5), .ref (m + 6), .int (nI qu.length), .int lt, .int pr, .int tl, .int tk, .int sm, .int my, .int gr, .int rc])) := hm
  obtain ⟨h1, h2, h3, h4, h5, h6⟩ := id hr0
  have hq1 := i_rng (mn mA mB)
  have hq2 := i_rng la
  have hq3 := i_rng t
  have hbt : bigI t.toInt := ⟨by omega, by omega⟩
  have hbm : bigI ((mn mA mB).toInt - la.toInt) := ⟨by omega, by omega⟩
  refine j_start (cc := cX5_take) (maxL := 6) (ret := (some .int)) (by decide) rfl [some (.ref m), some (.int 1), some (.int t), some (.int k), some (.int v), none] (Nat.le_of_ble_eq_true rfl) rfl ?_
  intro p e s m0 below meth c X hlk hr hnm
  refine j_iload_n X 2 dX5_take_0 rfl rfl ?_
  refine j_callS X nwSQ_ok (As := [.int t]) (rest := []) rfl (c_X5_isTime l D hI b0 t) rfl gX5_take_X5_isTime ddX5_isTime ⟨Nat.le_of_ble_eq_true rfl, Nat.le_of_ble_eq_true rfl⟩ (Nat.le_of_ble_eq_true rfl) rfl dX5_take_1 ⟨(by show 0 + 0 ≤ 0; omega), (by show 0 + 0 ≤ 0; omega)⟩ (fun r143 M144 n145 hr146 => ?_)
  obtain ⟨rfl, rfl, rfl⟩ := hr146
  refine j_st (st := [.int (if -1000000000 ≤ t ∧ t ≤ 1000000000 then 1 else 0)]) rfl ?_
  refine j_if_ne X 10 dX5_take_4 (by decide) (fun c147 => ?_) (fun c147 => ?_)
  · skip
    refine j_iload_n X 2 dX5_take_10 rfl rfl ?_
    refine j_i2l X dX5_take_11 ?_
    refine j_st (st := [.long (lI t.toInt)]) (by rw [l_of t]) ?_
    refine j_aload_n X 0 dX5_take_12 rfl rfl ?_
    refine j_callV X nwSQ_ok (As := []) (rest := [.long (lI t.toInt)]) hm rfl rfl (c_X5_mark l D hI b0 hm ⟨h1, h2, h3, h4, h5, h6⟩) rfl gX5_take_X5_mark ⟨rfl, ddX5_mark⟩ ⟨Nat.le_of_ble_eq_true rfl, Nat.le_of_ble_eq_true rfl⟩ (Nat.le_of_ble_eq_true rfl) rfl dX5_take_13 ⟨(by show 0 + 0 ≤ 0; omega), (by show 0 + 0 ≤ 0; omega)⟩ (fun r148 M149 n150 hr151 => ?_)
    obtain ⟨rfl, rfl, rfl⟩ := hr151
    refine j_st (st := [.int (mn mA mB), .long (lI t.toInt)]) (by rw [hm0, hm1]; rfl) ?_
    refine j_i2l X dX5_take_16 ?_
    refine j_st (st := [.long (lI (mn mA mB).toInt), .long (lI t.toInt)]) (by rw [l_of (mn mA mB)]) ?_
    refine j_aload_n X 0 dX5_take_17 rfl rfl ?_
    refine j_get X hm rfl iwX5_take_X5 2 (by decide) lkX5_take_67 rfl dX5_take_18 ?_
    refine j_i2l X dX5_take_21 ?_
    refine j_st (st := [.long (lI la.toInt), .long (lI (mn mA mB).toInt), .long (lI t.toInt)]) (by rw [l_of la]) ?_
    refine j_lsub X dX5_take_22 ?_
    refine j_st (st := [.long (lI (((mn mA mB).toInt) - la.toInt)), .long (lI t.toInt)]) (by rw [lI_sub]) ?_
    refine j_lc_ge X 40 dX5_take_23 dX5_take_24 (by decide) (fun c152 => ?_) (fun c152 => ?_)
    · skip
      refine j_aload_n X 0 dX5_take_40 rfl rfl ?_
      refine j_get X hm rfl iwX5_take_X5 9 (by decide) lkX5_take_32 rfl dX5_take_41 ?_
      refine j_iconst X dX5_take_44 (v := 0) (by decide) ?_
      refine j_iald X h4 hI (vp_in_nI (n := 0) (by decide) (by decide)) (v := nI A.length) (hk0) dX5_take_45 ?_
      refine j_aload_n X 0 dX5_take_46 rfl rfl ?_
      refine j_get X hm rfl iwX5_take_X5 9 (by decide) lkX5_take_32 rfl dX5_take_47 ?_
      refine j_iconst X dX5_take_50 (v := 1) (by decide) ?_
      refine j_iald X h4 hI (vp_in_nI (n := 1) (by decide) (by decide)) (v := nI B.length) (hk1) dX5_take_51 ?_
      refine j_iadd X dX5_take_52 ?_
      refine j_st (st := [.int (nI (A.length + B.length))]) (by rw [show (nI A.length) + (nI B.length) = nI (A.length + B.length) from nI_add _ _]) ?_
      refine j_aload_n X 0 dX5_take_53 rfl rfl ?_
      refine j_get X hm rfl iwX5_take_X5 4 (by decide) lkX5_take_16 rfl dX5_take_54 ?_
      refine j_icmp_eq X 82 dX5_take_57 (by decide) (fun c153 => ?_) (fun c153 => ?_)
      · skip
        refine j_bipush X dX5_take_82 (v := (-3)) (by decide) ?_
        exact j_iret X hlk hr (by omega) (by omega) dX5_take_84 ⟨rfl, rfl, rfl⟩
      · skip
        exact absurd hR c153
    · skip
      exact absurd ((lI_le hbm hbt).mpr hL) c152
  · skip
    exact absurd hT (zo_eq.mp c147)
set_option maxHeartbeats 800000 in
set_option maxRecDepth 100000 in
theorem c_X5_takeBQ (l : Launch) (D : va_G) {ty : jT} {cA : ClassId} (hI : ty[0]? = some (cA, .int)) (b0 : Nat) {M : jM} {n m : Nat} {w sl la sp rm ln mA mB lt pr tl tk : Int32} {A B : List Ev} {qu : List Rec} (h : RF M m w sl la sp rm ln mA mB lt pr tl tk A B qu) (t k v : Int32) (hTA : ∀ e ∈ A, -1000000000 ≤ e.1.toInt ∧ e.1.toInt ≤ 1000000000) (hTB : ∀ e ∈ B, -1000000000 ≤ e.1.toInt ∧ e.1.toInt ≤ 1000000000) (hT : (-1000000000 ≤ t ∧ t ≤ 1000000000)) (hL : (mn mA mB).toInt - la.toInt ≤ t.toInt) (hR : ¬ nI (A.length + B.length) = rm) (hN : ¬ nI (qu.length + A.countP (nr t k sp)) ≤ ln) (hown : B.length < 200) : Ct l D ty vwCl nwSQ b0 yX5_take wsX5_take 2 58 0 0 [.ref m, .int 1, .int t, .int k, .int v] M n (fun r M' n' => r = some (.int (-3)) ∧ n = n' ∧ RF M' m w sl la sp rm ln mA mB lt pr tl tk A B qu ∧ ∀ q, (q < m ∨ m + 6 < q) → M' q = M q) := by
  obtain ⟨sm, my, gr, rc, ft, fk, fv, kp, mk, qa, hm, hr0, hk0, hk1, hm0, hm1, hlA, hlB, hlQ, hA, hB, hQ⟩ := id h
  have hm : M m = some (.inr (5, [.int w, .int sl, .int la, .int sp, .int rm, .int ln, .ref (m + 1), .ref (m + 2), .ref (m + 3), .ref (m + 4), .ref (m + 5), .ref (m + 6), .int (nI qu.length), .int lt, .int pr, .int tl, .int tk, .int sm, .int my, .int gr, .int rc])) := hm
  obtain ⟨h1, h2, h3, h4, h5, h6⟩ := id hr0
  have hq1 := i_rng (mn mA mB)
  have hq2 := i_rng la
  have hq3 := i_rng t
  have hbt : bigI t.toInt := ⟨by omega, by omega⟩
  have hbm : bigI ((mn mA mB).toInt - la.toInt) := ⟨by omega, by omega⟩
  refine j_start (cc := cX5_take) (maxL := 6) (ret := (some .int)) (by decide) rfl [some (.ref m), some (.int 1), some (.int t), some (.int k), some (.int v), none] (Nat.le_of_ble_eq_true rfl) rfl ?_
  intro p e s m0 below meth c X hlk hr hnm
  refine j_iload_n X 2 dX5_take_0 rfl rfl ?_
  refine j_callS X nwSQ_ok (As := [.int t]) (rest := []) rfl (c_X5_isTime l D hI b0 t) rfl gX5_take_X5_isTime ddX5_isTime ⟨Nat.le_of_ble_eq_true rfl, Nat.le_of_ble_eq_true rfl⟩ (Nat.le_of_ble_eq_true rfl) rfl dX5_take_1 ⟨(by show 0 + 0 ≤ 0; omega), (by show 0 + 0 ≤ 0; omega)⟩ (fun r154 M155 n156 hr157 => ?_)
  obtain ⟨rfl, rfl, rfl⟩ := hr157
  refine j_st (st := [.int (if -1000000000 ≤ t ∧ t ≤ 1000000000 then 1 else 0)]) rfl ?_
  refine j_if_ne X 10 dX5_take_4 (by decide) (fun c158 => ?_) (fun c158 => ?_)
  · skip
    refine j_iload_n X 2 dX5_take_10 rfl rfl ?_
    refine j_i2l X dX5_take_11 ?_
    refine j_st (st := [.long (lI t.toInt)]) (by rw [l_of t]) ?_
    refine j_aload_n X 0 dX5_take_12 rfl rfl ?_
    refine j_callV X nwSQ_ok (As := []) (rest := [.long (lI t.toInt)]) hm rfl rfl (c_X5_mark l D hI b0 hm ⟨h1, h2, h3, h4, h5, h6⟩) rfl gX5_take_X5_mark ⟨rfl, ddX5_mark⟩ ⟨Nat.le_of_ble_eq_true rfl, Nat.le_of_ble_eq_true rfl⟩ (Nat.le_of_ble_eq_true rfl) rfl dX5_take_13 ⟨(by show 0 + 0 ≤ 0; omega), (by show 0 + 0 ≤ 0; omega)⟩ (fun r159 M160 n161 hr162 => ?_)
    obtain ⟨rfl, rfl, rfl⟩ := hr162
    refine j_st (st := [.int (mn mA mB), .long (lI t.toInt)]) (by rw [hm0, hm1]; rfl) ?_
    refine j_i2l X dX5_take_16 ?_
    refine j_st (st := [.long (lI (mn mA mB).toInt), .long (lI t.toInt)]) (by rw [l_of (mn mA mB)]) ?_
    refine j_aload_n X 0 dX5_take_17 rfl rfl ?_
    refine j_get X hm rfl iwX5_take_X5 2 (by decide) lkX5_take_67 rfl dX5_take_18 ?_
    refine j_i2l X dX5_take_21 ?_
    refine j_st (st := [.long (lI la.toInt), .long (lI (mn mA mB).toInt), .long (lI t.toInt)]) (by rw [l_of la]) ?_
    refine j_lsub X dX5_take_22 ?_
    refine j_st (st := [.long (lI (((mn mA mB).toInt) - la.toInt)), .long (lI t.toInt)]) (by rw [lI_sub]) ?_
    refine j_lc_ge X 40 dX5_take_23 dX5_take_24 (by decide) (fun c163 => ?_) (fun c163 => ?_)
    · skip
      refine j_aload_n X 0 dX5_take_40 rfl rfl ?_
      refine j_get X hm rfl iwX5_take_X5 9 (by decide) lkX5_take_32 rfl dX5_take_41 ?_
      refine j_iconst X dX5_take_44 (v := 0) (by decide) ?_
      refine j_iald X h4 hI (vp_in_nI (n := 0) (by decide) (by decide)) (v := nI A.length) (hk0) dX5_take_45 ?_
      refine j_aload_n X 0 dX5_take_46 rfl rfl ?_
      refine j_get X hm rfl iwX5_take_X5 9 (by decide) lkX5_take_32 rfl dX5_take_47 ?_
      refine j_iconst X dX5_take_50 (v := 1) (by decide) ?_
      refine j_iald X h4 hI (vp_in_nI (n := 1) (by decide) (by decide)) (v := nI B.length) (hk1) dX5_take_51 ?_
      refine j_iadd X dX5_take_52 ?_
      refine j_st (st := [.int (nI (A.length + B.length))]) (by rw [show (nI A.length) + (nI B.length) = nI (A.length + B.length) from nI_add _ _]) ?_
      refine j_aload_n X 0 dX5_take_53 rfl rfl ?_
      refine j_get X hm rfl iwX5_take_X5 4 (by decide) lkX5_take_16 rfl dX5_take_54 ?_
      refine j_icmp_eq X 82 dX5_take_57 (by decide) (fun c164 => ?_) (fun c164 => ?_)
      · skip
        exact absurd c164 hR
      · skip
        refine j_aload_n X 0 dX5_take_60 rfl rfl ?_
        refine j_get X hm rfl iwX5_take_X5 12 (by decide) lkX5_take_45 rfl dX5_take_61 ?_
        refine j_aload_n X 0 dX5_take_64 rfl rfl ?_
        refine j_iload_n X 1 dX5_take_65 rfl rfl ?_
        refine j_iload_n X 2 dX5_take_66 rfl rfl ?_
        refine j_iload_n X 3 dX5_take_67 rfl rfl ?_
        refine j_iload X dX5_take_68 rfl ?_
        refine j_iconst X dX5_take_70 (v := 0) (by decide) ?_
        refine j_callV X nwSQ_ok (As := [.int 1, .int t, .int k, .int v, .int 0]) (rest := [.int (nI qu.length)]) hm rfl rfl (c_X5_evB0 l D hI b0 hm ⟨h1, h2, h3, h4, h5, h6⟩ ⟨hk0, hk1, hm0, hm1, hlA, hlB, hlQ, hA, hB, hQ⟩ t k v ⟨i_le.mp hT.1, i_le.mp hT.2⟩ hTA hTB hown) rfl gX5_take_X5_event ⟨rfl, ddX5_event⟩ ⟨Nat.le_of_ble_eq_true rfl, Nat.le_of_ble_eq_true rfl⟩ (Nat.le_of_ble_eq_true rfl) rfl dX5_take_71 ⟨(by show 0 + 0 ≤ 0; omega), (by show 0 + 0 ≤ 0; omega)⟩ (fun r165 M166 n167 hr168 => ?_)
        obtain ⟨rfl, rfl, hm2, hr2, hf2⟩ := hr168
        refine j_st (st := [.int (nI (A.countP (nr t k sp))), .int (nI qu.length)]) rfl ?_
        have hm2 : M166 m = some (.inr (5, [.int w, .int sl, .int la, .int sp, .int rm, .int ln, .ref (m + 1), .ref (m + 2), .ref (m + 3), .ref (m + 4), .ref (m + 5), .ref (m + 6), .int (nI qu.length), .int lt, .int pr, .int tl, .int tk, .int sm, .int my, .int gr, .int rc])) := hm2
        obtain ⟨e1, e2, e3, e4, e5, e6⟩ := id hr2
        refine j_iadd X dX5_take_74 ?_
        refine j_st (st := [.int (nI (qu.length + (A.countP (nr t k sp))))]) (by rw [show (nI qu.length) + (nI (A.countP (nr t k sp))) = nI (qu.length + (A.countP (nr t k sp))) from nI_add _ _]) ?_
        refine j_aload_n X 0 dX5_take_75 rfl rfl ?_
        refine j_get X hm2 rfl iwX5_take_X5 5 (by decide) lkX5_take_19 rfl dX5_take_76 ?_
        refine j_icmp_le X 85 dX5_take_79 (by decide) (fun c169 => ?_) (fun c169 => ?_)
        · skip
          exact absurd c169 hN
        · skip
          refine j_bipush X dX5_take_82 (v := (-3)) (by decide) ?_
          exact j_iret X hlk hr (by omega) (by omega) dX5_take_84 ⟨rfl, rfl, ⟨sm, my, gr, rc, _, _, _, kp, mk, qa, hm2, ⟨e1, e2, e3, e4, e5, e6⟩, ⟨hk0, hk1, hm0, hm1, hlA, hlB, hlQ, (fun i hi => by rw [pk_un (by omega), pk_un (by omega), pk_un (by omega)]; exact hA i hi), (fun i hi => by rw [pk_un (by omega), pk_un (by omega), pk_un (by omega)]; exact hB i hi), hQ⟩⟩, fun q hq => by rw [hf2 _ (by omega)]⟩
    · skip
      exact absurd ((lI_le hbm hbt).mpr hL) c163
  · skip
    exact absurd hT (zo_eq.mp c158)
set_option maxHeartbeats 800000 in
set_option maxRecDepth 100000 in
theorem c_X5_takeBP (l : Launch) (D : va_G) {ty : jT} {cA : ClassId} (hI : ty[0]? = some (cA, .int)) (b0 : Nat) {M : jM} {n m : Nat} {w sl la sp rm ln mA mB lt pr tl tk : Int32} {A B : List Ev} {qu : List Rec} (h : RF M m w sl la sp rm ln mA mB lt pr tl tk A B qu) (t k v : Int32) (hTA : ∀ e ∈ A, -1000000000 ≤ e.1.toInt ∧ e.1.toInt ≤ 1000000000) (hTB : ∀ e ∈ B, -1000000000 ≤ e.1.toInt ∧ e.1.toInt ≤ 1000000000) (hT : (-1000000000 ≤ t ∧ t ≤ 1000000000)) (hL : (mn mA mB).toInt - la.toInt ≤ t.toInt) (hR : ¬ nI (A.length + B.length) = rm) (hN : nI (qu.length + A.countP (nr t k sp)) ≤ ln) (hq4 : qu.length + A.countP (nr t k sp) ≤ 400) (hown : B.length < 200) : Ct l D ty vwCl nwSQ b0 yX5_take wsX5_take 2 58 0 0 [.ref m, .int 1, .int t, .int k, .int v] M n (fun r M' n' => r = some (.int (nI (A.countP (nr t k sp)))) ∧ n = n' ∧ RF M' m w sl la sp rm ln mA mB lt (pr + nI (A.countP (nr t k sp))) tl (tk + 1) A (B ++ [(t, k, v)]) (qu ++ (A.filter (nr t k sp)).map (fun e : Ev => ((2, e.1, t, k, e.2.2, v) : Rec))) ∧ ∀ q, (q < m ∨ m + 6 < q) → M' q = M q) := by
  obtain ⟨sm, my, gr, rc, ft, fk, fv, kp, mk, qa, hm, hr0, hk0, hk1, hm0, hm1, hlA, hlB, hlQ, hA, hB, hQ⟩ := id h
  have hm : M m = some (.inr (5, [.int w, .int sl, .int la, .int sp, .int rm, .int ln, .ref (m + 1), .ref (m + 2), .ref (m + 3), .ref (m + 4), .ref (m + 5), .ref (m + 6), .int (nI qu.length), .int lt, .int pr, .int tl, .int tk, .int sm, .int my, .int gr, .int rc])) := hm
  obtain ⟨h1, h2, h3, h4, h5, h6⟩ := id hr0
  have hq1 := i_rng (mn mA mB)
  have hq2 := i_rng la
  have hq3 := i_rng t
  have hbt : bigI t.toInt := ⟨by omega, by omega⟩
  have hbm : bigI ((mn mA mB).toInt - la.toInt) := ⟨by omega, by omega⟩
  refine j_start (cc := cX5_take) (maxL := 6) (ret := (some .int)) (by decide) rfl [some (.ref m), some (.int 1), some (.int t), some (.int k), some (.int v), none] (Nat.le_of_ble_eq_true rfl) rfl ?_
  intro p e s m0 below meth c X hlk hr hnm
  refine j_iload_n X 2 dX5_take_0 rfl rfl ?_
  refine j_callS X nwSQ_ok (As := [.int t]) (rest := []) rfl (c_X5_isTime l D hI b0 t) rfl gX5_take_X5_isTime ddX5_isTime ⟨Nat.le_of_ble_eq_true rfl, Nat.le_of_ble_eq_true rfl⟩ (Nat.le_of_ble_eq_true rfl) rfl dX5_take_1 ⟨(by show 0 + 0 ≤ 0; omega), (by show 0 + 0 ≤ 0; omega)⟩ (fun r170 M171 n172 hr173 => ?_)
  obtain ⟨rfl, rfl, rfl⟩ := hr173
  refine j_st (st := [.int (if -1000000000 ≤ t ∧ t ≤ 1000000000 then 1 else 0)]) rfl ?_
  refine j_if_ne X 10 dX5_take_4 (by decide) (fun c174 => ?_) (fun c174 => ?_)
  · skip
    refine j_iload_n X 2 dX5_take_10 rfl rfl ?_
    refine j_i2l X dX5_take_11 ?_
    refine j_st (st := [.long (lI t.toInt)]) (by rw [l_of t]) ?_
    refine j_aload_n X 0 dX5_take_12 rfl rfl ?_
    refine j_callV X nwSQ_ok (As := []) (rest := [.long (lI t.toInt)]) hm rfl rfl (c_X5_mark l D hI b0 hm ⟨h1, h2, h3, h4, h5, h6⟩) rfl gX5_take_X5_mark ⟨rfl, ddX5_mark⟩ ⟨Nat.le_of_ble_eq_true rfl, Nat.le_of_ble_eq_true rfl⟩ (Nat.le_of_ble_eq_true rfl) rfl dX5_take_13 ⟨(by show 0 + 0 ≤ 0; omega), (by show 0 + 0 ≤ 0; omega)⟩ (fun r175 M176 n177 hr178 => ?_)
    obtain ⟨rfl, rfl, rfl⟩ := hr178
    refine j_st (st := [.int (mn mA mB), .long (lI t.toInt)]) (by rw [hm0, hm1]; rfl) ?_
    refine j_i2l X dX5_take_16 ?_
    refine j_st (st := [.long (lI (mn mA mB).toInt), .long (lI t.toInt)]) (by rw [l_of (mn mA mB)]) ?_
    refine j_aload_n X 0 dX5_take_17 rfl rfl ?_
    refine j_get X hm rfl iwX5_take_X5 2 (by decide) lkX5_take_67 rfl dX5_take_18 ?_
    refine j_i2l X dX5_take_21 ?_
    refine j_st (st := [.long (lI la.toInt), .long (lI (mn mA mB).toInt), .long (lI t.toInt)]) (by rw [l_of la]) ?_
    refine j_lsub X dX5_take_22 ?_
    refine j_st (st := [.long (lI (((mn mA mB).toInt) - la.toInt)), .long (lI t.toInt)]) (by rw [lI_sub]) ?_
    refine j_lc_ge X 40 dX5_take_23 dX5_take_24 (by decide) (fun c179 => ?_) (fun c179 => ?_)
    · skip
      refine j_aload_n X 0 dX5_take_40 rfl rfl ?_
      refine j_get X hm rfl iwX5_take_X5 9 (by decide) lkX5_take_32 rfl dX5_take_41 ?_
      refine j_iconst X dX5_take_44 (v := 0) (by decide) ?_
      refine j_iald X h4 hI (vp_in_nI (n := 0) (by decide) (by decide)) (v := nI A.length) (hk0) dX5_take_45 ?_
      refine j_aload_n X 0 dX5_take_46 rfl rfl ?_
      refine j_get X hm rfl iwX5_take_X5 9 (by decide) lkX5_take_32 rfl dX5_take_47 ?_
      refine j_iconst X dX5_take_50 (v := 1) (by decide) ?_
      refine j_iald X h4 hI (vp_in_nI (n := 1) (by decide) (by decide)) (v := nI B.length) (hk1) dX5_take_51 ?_
      refine j_iadd X dX5_take_52 ?_
      refine j_st (st := [.int (nI (A.length + B.length))]) (by rw [show (nI A.length) + (nI B.length) = nI (A.length + B.length) from nI_add _ _]) ?_
      refine j_aload_n X 0 dX5_take_53 rfl rfl ?_
      refine j_get X hm rfl iwX5_take_X5 4 (by decide) lkX5_take_16 rfl dX5_take_54 ?_
      refine j_icmp_eq X 82 dX5_take_57 (by decide) (fun c180 => ?_) (fun c180 => ?_)
      · skip
        exact absurd c180 hR
      · skip
        refine j_aload_n X 0 dX5_take_60 rfl rfl ?_
        refine j_get X hm rfl iwX5_take_X5 12 (by decide) lkX5_take_45 rfl dX5_take_61 ?_
        refine j_aload_n X 0 dX5_take_64 rfl rfl ?_
        refine j_iload_n X 1 dX5_take_65 rfl rfl ?_
        refine j_iload_n X 2 dX5_take_66 rfl rfl ?_
        refine j_iload_n X 3 dX5_take_67 rfl rfl ?_
        refine j_iload X dX5_take_68 rfl ?_
        refine j_iconst X dX5_take_70 (v := 0) (by decide) ?_
        refine j_callV X nwSQ_ok (As := [.int 1, .int t, .int k, .int v, .int 0]) (rest := [.int (nI qu.length)]) hm rfl rfl (c_X5_evB0 l D hI b0 hm ⟨h1, h2, h3, h4, h5, h6⟩ ⟨hk0, hk1, hm0, hm1, hlA, hlB, hlQ, hA, hB, hQ⟩ t k v ⟨i_le.mp hT.1, i_le.mp hT.2⟩ hTA hTB hown) rfl gX5_take_X5_event ⟨rfl, ddX5_event⟩ ⟨Nat.le_of_ble_eq_true rfl, Nat.le_of_ble_eq_true rfl⟩ (Nat.le_of_ble_eq_true rfl) rfl dX5_take_71 ⟨(by show 0 + 0 ≤ 0; omega), (by show 0 + 0 ≤ 0; omega)⟩ (fun r181 M182 n183 hr184 => ?_)
        obtain ⟨rfl, rfl, hm2, hr2, hf2⟩ := hr184
        refine j_st (st := [.int (nI (A.countP (nr t k sp))), .int (nI qu.length)]) rfl ?_
        have hm2 : M182 m = some (.inr (5, [.int w, .int sl, .int la, .int sp, .int rm, .int ln, .ref (m + 1), .ref (m + 2), .ref (m + 3), .ref (m + 4), .ref (m + 5), .ref (m + 6), .int (nI qu.length), .int lt, .int pr, .int tl, .int tk, .int sm, .int my, .int gr, .int rc])) := hm2
        obtain ⟨e1, e2, e3, e4, e5, e6⟩ := id hr2
        refine j_iadd X dX5_take_74 ?_
        refine j_st (st := [.int (nI (qu.length + (A.countP (nr t k sp))))]) (by rw [show (nI qu.length) + (nI (A.countP (nr t k sp))) = nI (qu.length + (A.countP (nr t k sp))) from nI_add _ _]) ?_
        refine j_aload_n X 0 dX5_take_75 rfl rfl ?_
        refine j_get X hm2 rfl iwX5_take_X5 5 (by decide) lkX5_take_19 rfl dX5_take_76 ?_
        refine j_icmp_le X 85 dX5_take_79 (by decide) (fun c185 => ?_) (fun c185 => ?_)
        · skip
          refine j_aload_n X 0 dX5_take_85 rfl rfl ?_
          refine j_iload_n X 1 dX5_take_86 rfl rfl ?_
          refine j_iload_n X 2 dX5_take_87 rfl rfl ?_
          refine j_iload_n X 3 dX5_take_88 rfl rfl ?_
          refine j_iload X dX5_take_89 rfl ?_
          refine j_iconst X dX5_take_91 (v := 1) (by decide) ?_
          refine j_callV X nwSQ_ok (As := [.int 1, .int t, .int k, .int v, .int 1]) (rest := []) hm2 rfl rfl (c_X5_evB1 l D hI b0 hm2 ⟨e1, e2, e3, e4, e5, e6⟩ ⟨hk0, hk1, hm0, hm1, hlA, hlB, hlQ, (fun i hi => by rw [pk_un (by omega), pk_un (by omega), pk_un (by omega)]; exact hA i hi), (fun i hi => by rw [pk_un (by omega), pk_un (by omega), pk_un (by omega)]; exact hB i hi), hQ⟩ t k v ⟨i_le.mp hT.1, i_le.mp hT.2⟩ hTA hTB hown hq4) rfl gX5_take_X5_event ⟨rfl, ddX5_event⟩ ⟨Nat.le_of_ble_eq_true rfl, Nat.le_of_ble_eq_true rfl⟩ (Nat.le_of_ble_eq_true rfl) rfl dX5_take_92 ⟨(by show 0 + 0 ≤ 0; omega), (by show 0 + 0 ≤ 0; omega)⟩ (fun r186 M187 n188 hr189 => ?_)
          obtain ⟨rfl, rfl, qb, hm3, hr3, hq3, hf3⟩ := hr189
          refine j_st (st := [.int (nI (A.countP (nr t k sp)))]) rfl ?_
          have hm3 : M187 m = some (.inr (5, [.int w, .int sl, .int la, .int sp, .int rm, .int ln, .ref (m + 1), .ref (m + 2), .ref (m + 3), .ref (m + 4), .ref (m + 5), .ref (m + 6), .int (nI (qu ++ (A.filter (nr t k sp)).map (fun e : Ev => ((2, e.1, t, k, e.2.2, v) : Rec))).length), .int lt, .int pr, .int tl, .int tk, .int sm, .int my, .int gr, .int rc])) := hm3
          rw [up_up, up_up, up_up] at hr3
          obtain ⟨g1, g2, g3, g4, g5, g6⟩ := id hr3
          refine j_istore X dX5_take_95 (by decide) rfl (L' := [some (.ref m), some (.int 1), some (.int t), some (.int k), some (.int v), some (.int (nI (A.countP (nr t k sp))))]) rfl ?_
          refine j_aload_n X 0 dX5_take_97 rfl rfl ?_
          refine j_get X hm3 rfl iwX5_take_X5 9 (by decide) lkX5_take_32 rfl dX5_take_98 ?_
          refine j_iload_n X 1 dX5_take_101 rfl rfl ?_
          refine j_dup2 X dX5_take_102 rfl rfl ?_
          refine j_iald X g4 hI (vp_in_nI (n := 1) (by decide) (by decide)) (v := nI B.length) (hk1) dX5_take_103 ?_
          refine j_iconst X dX5_take_104 (v := 1) (by decide) ?_
          refine j_iadd X dX5_take_105 ?_
          refine j_st (st := [.int (nI (B.length + 1)), .int 1, .ref (m + 4)]) (by rw [show (nI B.length) + 1 = nI (B.length + 1) from nI_add _ 1]) ?_
          refine j_iast X g4 hI (vp_in_nI (n := 1) (by decide) (by decide)) dX5_take_106 ?_
          rw [show (1 : Int32).toNatClampNeg = 1 from by decide]
          generalize eM190 : j_up M187 (m + 4) (.inl (0, 2, .inl (upd kp 1 (nI (B.length + 1))))) = M190
          have h191 : M190 m = some (.inr (5, [.int w, .int sl, .int la, .int sp, .int rm, .int ln, .ref (m + 1), .ref (m + 2), .ref (m + 3), .ref (m + 4), .ref (m + 5), .ref (m + 6), .int (nI (qu ++ (A.filter (nr t k sp)).map (fun e : Ev => ((2, e.1, t, k, e.2.2, v) : Rec))).length), .int lt, .int pr, .int tl, .int tk, .int sm, .int my, .int gr, .int rc])) := by rw [← eM190, j_up_ne _ _ (by omega)]; exact hm3
          have h192 : M190 (m + 1) = some (.inl (0, 400, .inl (upd ft (200 + B.length) t))) := by rw [← eM190, j_up_ne _ _ (by omega)]; exact g1
          have h193 : M190 (m + 2) = some (.inl (0, 400, .inl (upd fk (200 + B.length) k))) := by rw [← eM190, j_up_ne _ _ (by omega)]; exact g2
          have h194 : M190 (m + 3) = some (.inl (0, 400, .inl (upd fv (200 + B.length) v))) := by rw [← eM190, j_up_ne _ _ (by omega)]; exact g3
          have h196 : M190 (m + 5) = some (.inl (0, 2, .inl mk)) := by rw [← eM190, j_up_ne _ _ (by omega)]; exact g5
          have h197 : M190 (m + 6) = some (.inl (0, 2400, .inl qb)) := by rw [← eM190, j_up_ne _ _ (by omega)]; exact g6
          have h198 : M190 (m + 4) = some (.inl (0, 2, .inl (upd kp 1 (nI (B.length + 1))))) := by rw [← eM190]; exact j_up_self _ _ _
          refine j_aload_n X 0 dX5_take_107 rfl rfl ?_
          refine j_dup X dX5_take_108 rfl ?_
          refine j_get X h191 rfl iwX5_take_X5 14 (by decide) lkX5_take_51 rfl dX5_take_109 ?_
          refine j_iload X dX5_take_112 rfl ?_
          refine j_iadd X dX5_take_114 ?_
          refine j_put X h191 rfl iwX5_take_X5 tyX5 tyX5_ok nmX5 14 (by decide) lkX5_take_51 rfl rfl rfl (Nat.le_of_ble_eq_true rfl) (fs' := [.int w, .int sl, .int la, .int sp, .int rm, .int ln, .ref (m + 1), .ref (m + 2), .ref (m + 3), .ref (m + 4), .ref (m + 5), .ref (m + 6), .int (nI (qu ++ (A.filter (nr t k sp)).map (fun e : Ev => ((2, e.1, t, k, e.2.2, v) : Rec))).length), .int lt, .int (pr + (nI (A.countP (nr t k sp)))), .int tl, .int tk, .int sm, .int my, .int gr, .int rc]) rfl dX5_take_115 ?_
          generalize eM199 : j_up M190 m (.inr (5, [.int w, .int sl, .int la, .int sp, .int rm, .int ln, .ref (m + 1), .ref (m + 2), .ref (m + 3), .ref (m + 4), .ref (m + 5), .ref (m + 6), .int (nI (qu ++ (A.filter (nr t k sp)).map (fun e : Ev => ((2, e.1, t, k, e.2.2, v) : Rec))).length), .int lt, .int (pr + (nI (A.countP (nr t k sp)))), .int tl, .int tk, .int sm, .int my, .int gr, .int rc])) = M199
          have h201 : M199 (m + 1) = some (.inl (0, 400, .inl (upd ft (200 + B.length) t))) := by rw [← eM199, j_up_ne _ _ (by omega)]; exact h192
          have h202 : M199 (m + 2) = some (.inl (0, 400, .inl (upd fk (200 + B.length) k))) := by rw [← eM199, j_up_ne _ _ (by omega)]; exact h193
          have h203 : M199 (m + 3) = some (.inl (0, 400, .inl (upd fv (200 + B.length) v))) := by rw [← eM199, j_up_ne _ _ (by omega)]; exact h194
          have h204 : M199 (m + 5) = some (.inl (0, 2, .inl mk)) := by rw [← eM199, j_up_ne _ _ (by omega)]; exact h196
          have h205 : M199 (m + 6) = some (.inl (0, 2400, .inl qb)) := by rw [← eM199, j_up_ne _ _ (by omega)]; exact h197
          have h206 : M199 (m + 4) = some (.inl (0, 2, .inl (upd kp 1 (nI (B.length + 1))))) := by rw [← eM199, j_up_ne _ _ (by omega)]; exact h198
          have h207 : M199 m = some (.inr (5, [.int w, .int sl, .int la, .int sp, .int rm, .int ln, .ref (m + 1), .ref (m + 2), .ref (m + 3), .ref (m + 4), .ref (m + 5), .ref (m + 6), .int (nI (qu ++ (A.filter (nr t k sp)).map (fun e : Ev => ((2, e.1, t, k, e.2.2, v) : Rec))).length), .int lt, .int (pr + (nI (A.countP (nr t k sp)))), .int tl, .int tk, .int sm, .int my, .int gr, .int rc])) := by rw [← eM199]; exact j_up_self _ _ _
          refine j_aload_n X 0 dX5_take_118 rfl rfl ?_
          refine j_dup X dX5_take_119 rfl ?_
          refine j_get X h207 rfl iwX5_take_X5 16 (by decide) lkX5_take_57 rfl dX5_take_120 ?_
          refine j_iconst X dX5_take_123 (v := 1) (by decide) ?_
          refine j_iadd X dX5_take_124 ?_
          refine j_put X h207 rfl iwX5_take_X5 tyX5 tyX5_ok nmX5 16 (by decide) lkX5_take_57 rfl rfl rfl (Nat.le_of_ble_eq_true rfl) (fs' := [.int w, .int sl, .int la, .int sp, .int rm, .int ln, .ref (m + 1), .ref (m + 2), .ref (m + 3), .ref (m + 4), .ref (m + 5), .ref (m + 6), .int (nI (qu ++ (A.filter (nr t k sp)).map (fun e : Ev => ((2, e.1, t, k, e.2.2, v) : Rec))).length), .int lt, .int (pr + (nI (A.countP (nr t k sp)))), .int tl, .int (tk + 1), .int sm, .int my, .int gr, .int rc]) rfl dX5_take_125 ?_
          generalize eM208 : j_up M199 m (.inr (5, [.int w, .int sl, .int la, .int sp, .int rm, .int ln, .ref (m + 1), .ref (m + 2), .ref (m + 3), .ref (m + 4), .ref (m + 5), .ref (m + 6), .int (nI (qu ++ (A.filter (nr t k sp)).map (fun e : Ev => ((2, e.1, t, k, e.2.2, v) : Rec))).length), .int lt, .int (pr + (nI (A.countP (nr t k sp)))), .int tl, .int (tk + 1), .int sm, .int my, .int gr, .int rc])) = M208
          have h209 : M208 (m + 1) = some (.inl (0, 400, .inl (upd ft (200 + B.length) t))) := by rw [← eM208, j_up_ne _ _ (by omega)]; exact h201
          have h210 : M208 (m + 2) = some (.inl (0, 400, .inl (upd fk (200 + B.length) k))) := by rw [← eM208, j_up_ne _ _ (by omega)]; exact h202
          have h211 : M208 (m + 3) = some (.inl (0, 400, .inl (upd fv (200 + B.length) v))) := by rw [← eM208, j_up_ne _ _ (by omega)]; exact h203
          have h212 : M208 (m + 5) = some (.inl (0, 2, .inl mk)) := by rw [← eM208, j_up_ne _ _ (by omega)]; exact h204
          have h213 : M208 (m + 6) = some (.inl (0, 2400, .inl qb)) := by rw [← eM208, j_up_ne _ _ (by omega)]; exact h205
          have h214 : M208 (m + 4) = some (.inl (0, 2, .inl (upd kp 1 (nI (B.length + 1))))) := by rw [← eM208, j_up_ne _ _ (by omega)]; exact h206
          have h216 : M208 m = some (.inr (5, [.int w, .int sl, .int la, .int sp, .int rm, .int ln, .ref (m + 1), .ref (m + 2), .ref (m + 3), .ref (m + 4), .ref (m + 5), .ref (m + 6), .int (nI (qu ++ (A.filter (nr t k sp)).map (fun e : Ev => ((2, e.1, t, k, e.2.2, v) : Rec))).length), .int lt, .int (pr + (nI (A.countP (nr t k sp)))), .int tl, .int (tk + 1), .int sm, .int my, .int gr, .int rc])) := by rw [← eM208]; exact j_up_self _ _ _
          refine j_iload X dX5_take_128 rfl ?_
          exact j_iret X hlk hr (by omega) (by omega) dX5_take_130 ⟨rfl, rfl, ⟨sm, my, gr, rc, _, _, _, _, mk, qb, h216, ⟨h209, h210, h211, h214, h212, h213⟩, (pk_un (by decide)).trans hk0, by rw [List.length_append]; exact pk_us, hm0, hm1, hlA, by rw [List.length_append]; show B.length + 1 ≤ 200; omega, (by rw [List.length_append, List.length_map, ← List.countP_eq_length_filter]; exact hq4), (fun i hi => by rw [pk_un (by omega), pk_un (by omega), pk_un (by omega)]; exact hA i hi), (ev_push2 (bs := 200) (a := t) (b := k) (v := v) hB), hq3⟩, fun q hq => by rw [← eM208, j_up_ne _ _ (by omega), ← eM199, j_up_ne _ _ (by omega), ← eM190, j_up_ne _ _ (by omega), hf3 _ (by omega), hf2 _ (by omega)]⟩
        · skip
          exact absurd hN c185
    · skip
      exact absurd ((lI_le hbm hbt).mpr hL) c179
  · skip
    exact absurd hT (zo_eq.mp c174)
set_option maxHeartbeats 800000 in
set_option maxRecDepth 100000 in
theorem c_X5_eBB (l : Launch) (D : va_G) {ty : jT} {cA : ClassId} (hI : ty[0]? = some (cA, .int)) (b0 : Nat) {M : jM} {n m : Nat} {w sl la sp rm ln mA mB lt pr tl tk : Int32} {A B : List Ev} {qu : List Rec} (h : RF M m w sl la sp rm ln mA mB lt pr tl tk A B qu) (t k v : Int32) (hT : ¬ (-1000000000 ≤ t ∧ t ≤ 1000000000)) : Ct l D ty vwCl nwSQ b0 yX5_eventB wsX5_eventB 3 83 0 0 [.ref m, .int t, .int k, .int v] M n (j_rd (.int (-2)) M n) := by
  obtain ⟨sm, my, gr, rc, ft, fk, fv, kp, mk, qa, hm, hr0, hk0, hk1, hm0, hm1, hlA, hlB, hlQ, hA, hB, hQ⟩ := id h
  have hm : M m = some (.inr (5, [.int w, .int sl, .int la, .int sp, .int rm, .int ln, .ref (m + 1), .ref (m + 2), .ref (m + 3), .ref (m + 4), .ref (m + 5), .ref (m + 6), .int (nI qu.length), .int lt, .int pr, .int tl, .int tk, .int sm, .int my, .int gr, .int rc])) := hm
  obtain ⟨h1, h2, h3, h4, h5, h6⟩ := id hr0
  refine j_start (cc := cX5_eventB) (maxL := 4) (ret := (some .int)) (by decide) rfl [some (.ref m), some (.int t), some (.int k), some (.int v)] (Nat.le_of_ble_eq_true rfl) rfl ?_
  intro p e s m0 below meth c X hlk hr hnm
  refine j_aload_n X 0 dX5_eventB_0 rfl rfl ?_
  refine j_iconst X dX5_eventB_1 (v := 1) (by decide) ?_
  refine j_iload_n X 1 dX5_eventB_2 rfl rfl ?_
  refine j_iload_n X 2 dX5_eventB_3 rfl rfl ?_
  refine j_iload_n X 3 dX5_eventB_4 rfl rfl ?_
  refine j_callV X nwSQ_ok (As := [.int 1, .int t, .int k, .int v]) (rest := []) hm rfl rfl (c_X5_takeBB l D hI b0 h t k v hT) rfl gX5_eventB_X5_take ⟨rfl, ddX5_take⟩ ⟨Nat.le_of_ble_eq_true rfl, Nat.le_of_ble_eq_true rfl⟩ (Nat.le_of_ble_eq_true rfl) rfl dX5_eventB_5 ⟨(by show 0 + 0 ≤ 0; omega), (by show 0 + 0 ≤ 0; omega)⟩ (fun r217 M218 n219 hr220 => ?_)
  obtain ⟨rfl, rfl, rfl⟩ := hr220
  refine j_st (st := [.int (-2)]) rfl ?_
  exact j_iret X hlk hr (by omega) (by omega) dX5_eventB_8 ⟨rfl, rfl, rfl⟩
set_option maxHeartbeats 800000 in
set_option maxRecDepth 100000 in
theorem c_X5_eBL (l : Launch) (D : va_G) {ty : jT} {cA : ClassId} (hI : ty[0]? = some (cA, .int)) (b0 : Nat) {M : jM} {n m : Nat} {w sl la sp rm ln mA mB lt pr tl tk : Int32} {A B : List Ev} {qu : List Rec} (h : RF M m w sl la sp rm ln mA mB lt pr tl tk A B qu) (t k v : Int32) (hT : (-1000000000 ≤ t ∧ t ≤ 1000000000)) (hL : ¬ (mn mA mB).toInt - la.toInt ≤ t.toInt) : Ct l D ty vwCl nwSQ b0 yX5_eventB wsX5_eventB 3 83 0 0 [.ref m, .int t, .int k, .int v] M n (fun r M' n' => r = some (.int (-4)) ∧ n = n' ∧ RF M' m w sl la sp rm ln mA mB (lt + 1) pr tl tk A B qu ∧ ∀ q, (q < m ∨ m + 6 < q) → M' q = M q) := by
  obtain ⟨sm, my, gr, rc, ft, fk, fv, kp, mk, qa, hm, hr0, hk0, hk1, hm0, hm1, hlA, hlB, hlQ, hA, hB, hQ⟩ := id h
  have hm : M m = some (.inr (5, [.int w, .int sl, .int la, .int sp, .int rm, .int ln, .ref (m + 1), .ref (m + 2), .ref (m + 3), .ref (m + 4), .ref (m + 5), .ref (m + 6), .int (nI qu.length), .int lt, .int pr, .int tl, .int tk, .int sm, .int my, .int gr, .int rc])) := hm
  obtain ⟨h1, h2, h3, h4, h5, h6⟩ := id hr0
  refine j_start (cc := cX5_eventB) (maxL := 4) (ret := (some .int)) (by decide) rfl [some (.ref m), some (.int t), some (.int k), some (.int v)] (Nat.le_of_ble_eq_true rfl) rfl ?_
  intro p e s m0 below meth c X hlk hr hnm
  refine j_aload_n X 0 dX5_eventB_0 rfl rfl ?_
  refine j_iconst X dX5_eventB_1 (v := 1) (by decide) ?_
  refine j_iload_n X 1 dX5_eventB_2 rfl rfl ?_
  refine j_iload_n X 2 dX5_eventB_3 rfl rfl ?_
  refine j_iload_n X 3 dX5_eventB_4 rfl rfl ?_
  refine j_callV X nwSQ_ok (As := [.int 1, .int t, .int k, .int v]) (rest := []) hm rfl rfl (c_X5_takeBL l D hI b0 h t k v hT hL) rfl gX5_eventB_X5_take ⟨rfl, ddX5_take⟩ ⟨Nat.le_of_ble_eq_true rfl, Nat.le_of_ble_eq_true rfl⟩ (Nat.le_of_ble_eq_true rfl) rfl dX5_eventB_5 ⟨(by show 0 + 0 ≤ 0; omega), (by show 0 + 0 ≤ 0; omega)⟩ (fun r221 M222 n223 hr224 => ?_)
  obtain ⟨rfl, rfl, hf1, hf2⟩ := hr224
  refine j_st (st := [.int (-4)]) rfl ?_
  exact j_iret X hlk hr (by omega) (by omega) dX5_eventB_8 ⟨rfl, rfl, hf1, hf2⟩
set_option maxHeartbeats 800000 in
set_option maxRecDepth 100000 in
theorem c_X5_eBF (l : Launch) (D : va_G) {ty : jT} {cA : ClassId} (hI : ty[0]? = some (cA, .int)) (b0 : Nat) {M : jM} {n m : Nat} {w sl la sp rm ln mA mB lt pr tl tk : Int32} {A B : List Ev} {qu : List Rec} (h : RF M m w sl la sp rm ln mA mB lt pr tl tk A B qu) (t k v : Int32) (hT : (-1000000000 ≤ t ∧ t ≤ 1000000000)) (hL : (mn mA mB).toInt - la.toInt ≤ t.toInt) (hR : nI (A.length + B.length) = rm) : Ct l D ty vwCl nwSQ b0 yX5_eventB wsX5_eventB 3 83 0 0 [.ref m, .int t, .int k, .int v] M n (j_rd (.int (-3)) M n) := by
  obtain ⟨sm, my, gr, rc, ft, fk, fv, kp, mk, qa, hm, hr0, hk0, hk1, hm0, hm1, hlA, hlB, hlQ, hA, hB, hQ⟩ := id h
  have hm : M m = some (.inr (5, [.int w, .int sl, .int la, .int sp, .int rm, .int ln, .ref (m + 1), .ref (m + 2), .ref (m + 3), .ref (m + 4), .ref (m + 5), .ref (m + 6), .int (nI qu.length), .int lt, .int pr, .int tl, .int tk, .int sm, .int my, .int gr, .int rc])) := hm
  obtain ⟨h1, h2, h3, h4, h5, h6⟩ := id hr0
  refine j_start (cc := cX5_eventB) (maxL := 4) (ret := (some .int)) (by decide) rfl [some (.ref m), some (.int t), some (.int k), some (.int v)] (Nat.le_of_ble_eq_true rfl) rfl ?_
  intro p e s m0 below meth c X hlk hr hnm
  refine j_aload_n X 0 dX5_eventB_0 rfl rfl ?_
  refine j_iconst X dX5_eventB_1 (v := 1) (by decide) ?_
  refine j_iload_n X 1 dX5_eventB_2 rfl rfl ?_
  refine j_iload_n X 2 dX5_eventB_3 rfl rfl ?_
  refine j_iload_n X 3 dX5_eventB_4 rfl rfl ?_
  refine j_callV X nwSQ_ok (As := [.int 1, .int t, .int k, .int v]) (rest := []) hm rfl rfl (c_X5_takeBF l D hI b0 h t k v hT hL hR) rfl gX5_eventB_X5_take ⟨rfl, ddX5_take⟩ ⟨Nat.le_of_ble_eq_true rfl, Nat.le_of_ble_eq_true rfl⟩ (Nat.le_of_ble_eq_true rfl) rfl dX5_eventB_5 ⟨(by show 0 + 0 ≤ 0; omega), (by show 0 + 0 ≤ 0; omega)⟩ (fun r225 M226 n227 hr228 => ?_)
  obtain ⟨rfl, rfl, rfl⟩ := hr228
  refine j_st (st := [.int (-3)]) rfl ?_
  exact j_iret X hlk hr (by omega) (by omega) dX5_eventB_8 ⟨rfl, rfl, rfl⟩
set_option maxHeartbeats 800000 in
set_option maxRecDepth 100000 in
theorem c_X5_eBQ (l : Launch) (D : va_G) {ty : jT} {cA : ClassId} (hI : ty[0]? = some (cA, .int)) (b0 : Nat) {M : jM} {n m : Nat} {w sl la sp rm ln mA mB lt pr tl tk : Int32} {A B : List Ev} {qu : List Rec} (h : RF M m w sl la sp rm ln mA mB lt pr tl tk A B qu) (t k v : Int32) (hTA : ∀ e ∈ A, -1000000000 ≤ e.1.toInt ∧ e.1.toInt ≤ 1000000000) (hTB : ∀ e ∈ B, -1000000000 ≤ e.1.toInt ∧ e.1.toInt ≤ 1000000000) (hT : (-1000000000 ≤ t ∧ t ≤ 1000000000)) (hL : (mn mA mB).toInt - la.toInt ≤ t.toInt) (hR : ¬ nI (A.length + B.length) = rm) (hN : ¬ nI (qu.length + A.countP (nr t k sp)) ≤ ln) (hown : B.length < 200) : Ct l D ty vwCl nwSQ b0 yX5_eventB wsX5_eventB 3 83 0 0 [.ref m, .int t, .int k, .int v] M n (fun r M' n' => r = some (.int (-3)) ∧ n = n' ∧ RF M' m w sl la sp rm ln mA mB lt pr tl tk A B qu ∧ ∀ q, (q < m ∨ m + 6 < q) → M' q = M q) := by
  obtain ⟨sm, my, gr, rc, ft, fk, fv, kp, mk, qa, hm, hr0, hk0, hk1, hm0, hm1, hlA, hlB, hlQ, hA, hB, hQ⟩ := id h
  have hm : M m = some (.inr (5, [.int w, .int sl, .int la, .int sp, .int rm, .int ln, .ref (m + 1), .ref (m + 2), .ref (m + 3), .ref (m + 4), .ref (m + 5), .ref (m + 6), .int (nI qu.length), .int lt, .int pr, .int tl, .int tk, .int sm, .int my, .int gr, .int rc])) := hm
  obtain ⟨h1, h2, h3, h4, h5, h6⟩ := id hr0
  refine j_start (cc := cX5_eventB) (maxL := 4) (ret := (some .int)) (by decide) rfl [some (.ref m), some (.int t), some (.int k), some (.int v)] (Nat.le_of_ble_eq_true rfl) rfl ?_
  intro p e s m0 below meth c X hlk hr hnm
  refine j_aload_n X 0 dX5_eventB_0 rfl rfl ?_
  refine j_iconst X dX5_eventB_1 (v := 1) (by decide) ?_
  refine j_iload_n X 1 dX5_eventB_2 rfl rfl ?_
  refine j_iload_n X 2 dX5_eventB_3 rfl rfl ?_
  refine j_iload_n X 3 dX5_eventB_4 rfl rfl ?_
  refine j_callV X nwSQ_ok (As := [.int 1, .int t, .int k, .int v]) (rest := []) hm rfl rfl (c_X5_takeBQ l D hI b0 h t k v hTA hTB hT hL hR hN hown) rfl gX5_eventB_X5_take ⟨rfl, ddX5_take⟩ ⟨Nat.le_of_ble_eq_true rfl, Nat.le_of_ble_eq_true rfl⟩ (Nat.le_of_ble_eq_true rfl) rfl dX5_eventB_5 ⟨(by show 0 + 0 ≤ 0; omega), (by show 0 + 0 ≤ 0; omega)⟩ (fun r229 M230 n231 hr232 => ?_)
  obtain ⟨rfl, rfl, hf1, hf2⟩ := hr232
  refine j_st (st := [.int (-3)]) rfl ?_
  exact j_iret X hlk hr (by omega) (by omega) dX5_eventB_8 ⟨rfl, rfl, hf1, hf2⟩
set_option maxHeartbeats 800000 in
set_option maxRecDepth 100000 in
theorem c_X5_eBP (l : Launch) (D : va_G) {ty : jT} {cA : ClassId} (hI : ty[0]? = some (cA, .int)) (b0 : Nat) {M : jM} {n m : Nat} {w sl la sp rm ln mA mB lt pr tl tk : Int32} {A B : List Ev} {qu : List Rec} (h : RF M m w sl la sp rm ln mA mB lt pr tl tk A B qu) (t k v : Int32) (hTA : ∀ e ∈ A, -1000000000 ≤ e.1.toInt ∧ e.1.toInt ≤ 1000000000) (hTB : ∀ e ∈ B, -1000000000 ≤ e.1.toInt ∧ e.1.toInt ≤ 1000000000) (hT : (-1000000000 ≤ t ∧ t ≤ 1000000000)) (hL : (mn mA mB).toInt - la.toInt ≤ t.toInt) (hR : ¬ nI (A.length + B.length) = rm) (hN : nI (qu.length + A.countP (nr t k sp)) ≤ ln) (hq4 : qu.length + A.countP (nr t k sp) ≤ 400) (hown : B.length < 200) : Ct l D ty vwCl nwSQ b0 yX5_eventB wsX5_eventB 3 83 0 0 [.ref m, .int t, .int k, .int v] M n (fun r M' n' => r = some (.int (nI (A.countP (nr t k sp)))) ∧ n = n' ∧ RF M' m w sl la sp rm ln mA mB lt (pr + nI (A.countP (nr t k sp))) tl (tk + 1) A (B ++ [(t, k, v)]) (qu ++ (A.filter (nr t k sp)).map (fun e : Ev => ((2, e.1, t, k, e.2.2, v) : Rec))) ∧ ∀ q, (q < m ∨ m + 6 < q) → M' q = M q) := by
  obtain ⟨sm, my, gr, rc, ft, fk, fv, kp, mk, qa, hm, hr0, hk0, hk1, hm0, hm1, hlA, hlB, hlQ, hA, hB, hQ⟩ := id h
  have hm : M m = some (.inr (5, [.int w, .int sl, .int la, .int sp, .int rm, .int ln, .ref (m + 1), .ref (m + 2), .ref (m + 3), .ref (m + 4), .ref (m + 5), .ref (m + 6), .int (nI qu.length), .int lt, .int pr, .int tl, .int tk, .int sm, .int my, .int gr, .int rc])) := hm
  obtain ⟨h1, h2, h3, h4, h5, h6⟩ := id hr0
  refine j_start (cc := cX5_eventB) (maxL := 4) (ret := (some .int)) (by decide) rfl [some (.ref m), some (.int t), some (.int k), some (.int v)] (Nat.le_of_ble_eq_true rfl) rfl ?_
  intro p e s m0 below meth c X hlk hr hnm
  refine j_aload_n X 0 dX5_eventB_0 rfl rfl ?_
  refine j_iconst X dX5_eventB_1 (v := 1) (by decide) ?_
  refine j_iload_n X 1 dX5_eventB_2 rfl rfl ?_
  refine j_iload_n X 2 dX5_eventB_3 rfl rfl ?_
  refine j_iload_n X 3 dX5_eventB_4 rfl rfl ?_
  refine j_callV X nwSQ_ok (As := [.int 1, .int t, .int k, .int v]) (rest := []) hm rfl rfl (c_X5_takeBP l D hI b0 h t k v hTA hTB hT hL hR hN hq4 hown) rfl gX5_eventB_X5_take ⟨rfl, ddX5_take⟩ ⟨Nat.le_of_ble_eq_true rfl, Nat.le_of_ble_eq_true rfl⟩ (Nat.le_of_ble_eq_true rfl) rfl dX5_eventB_5 ⟨(by show 0 + 0 ≤ 0; omega), (by show 0 + 0 ≤ 0; omega)⟩ (fun r233 M234 n235 hr236 => ?_)
  obtain ⟨rfl, rfl, hf1, hf2⟩ := hr236
  refine j_st (st := [.int (nI (A.countP (nr t k sp)))]) rfl ?_
  exact j_iret X hlk hr (by omega) (by omega) dX5_eventB_8 ⟨rfl, rfl, hf1, hf2⟩
