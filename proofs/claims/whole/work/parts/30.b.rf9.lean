set_option maxHeartbeats 800000 in
set_option maxRecDepth 100000 in
theorem c_X5_lookN (l : Launch) (D : va_G) {ty : jT} {cA : ClassId} (hI : ty[0]? = some (cA, .int)) (b0 : Nat) {M : jM} {n m : Nat} {w sl la sp rm ln mA mB lt pr tl tk : Int32} {A B : List Ev} {qu : List Rec} (h : RF M m w sl la sp rm ln mA mB lt pr tl tk A B qu) (hTA : ∀ e ∈ A, -1000000000 ≤ e.1.toInt ∧ e.1.toInt ≤ 1000000000) (hN : okN w sl) (h16 : w.toInt ≤ 16 * sl.toInt) (hla : 0 ≤ la.toInt ∧ la.toInt ≤ 1000000) (e1 k1 v : Int32) (hno : ¬ (isW w.toInt sl.toInt e1.toInt ∧ ¬ e1.toInt + la.toInt ≤ (mn mA mB).toInt ∧ (0 ≤ v ∧ v ≤ 2))) : Ct l D ty vwCl nwSQ b0 yX5_look wsX5_look 2 47 0 0 [.ref m, .int e1, .int k1, .int v] M n (j_rd (.int 0) M n) := by
  obtain ⟨sm, my, gr, rc, ft, fk, fv, kp, mk, qa, hm, hr0, hk0, hk1, hm0, hm1, hlA, hlB, hlQ, hA, hB, hQ⟩ := id h
  have hm : M m = some (.inr (5, [.int w, .int sl, .int la, .int sp, .int rm, .int ln, .ref (m + 1), .ref (m + 2), .ref (m + 3), .ref (m + 4), .ref (m + 5), .ref (m + 6), .int (nI qu.length), .int lt, .int pr, .int tl, .int tk, .int sm, .int my, .int gr, .int rc])) := hm
  obtain ⟨h1, h2, h3, h4, h5, h6⟩ := id hr0
  have hTt : okts ft A.length := fun i hi => hTA _ (List.mem_of_getElem? (hA i hi))
  have hv1 := i_rng (mn mA mB)
  have hbk : bigI (mn mA mB).toInt := ⟨by omega, by omega⟩
  have hv2 := i_rng e1
  have hbe : bigI (e1.toInt + la.toInt) := ⟨by omega, by omega⟩
  have hbd : bigI (e1.toInt - w.toInt) := ⟨by have := hN.1; omega, by have := hN.1; omega⟩
  have hbs : bigI sl.toInt := ⟨by have := hN.2; omega, by have := hN.2; omega⟩
  have hb0 : bigI 0 := ⟨by omega, by omega⟩
  have hps : 0 < sl.toInt := by have := hN.2; omega
  have hnz : ¬ lI sl.toInt = 0 := fun q => by rw [l_c0] at q; have := (lI_eq hbs hb0).mp q; omega
  refine j_start (cc := cX5_look) (maxL := 6) (ret := (some .int)) (by decide) rfl [some (.ref m), some (.int e1), some (.int k1), some (.int v), none, none] (Nat.le_of_ble_eq_true rfl) rfl ?_
  intro p e s m0 below meth c X hlk hr hnm
  refine j_iload_n X 1 dX5_look_0 rfl rfl ?_
  refine j_i2l X dX5_look_1 ?_
  refine j_st (st := [.long (lI e1.toInt)]) (by rw [l_of e1]) ?_
  refine j_aload_n X 0 dX5_look_2 rfl rfl ?_
  refine j_get X hm rfl iwX5_look_X5 0 (by decide) lkX5_look_7 rfl dX5_look_3 ?_
  refine j_i2l X dX5_look_6 ?_
  refine j_st (st := [.long (lI w.toInt), .long (lI e1.toInt)]) (by rw [l_of w]) ?_
  refine j_lsub X dX5_look_7 ?_
  refine j_st (st := [.long (lI (e1.toInt - w.toInt))]) (by rw [lI_sub]) ?_
  refine j_lstore X dX5_look_8 (by decide) rfl (L' := [some (.ref m), some (.int e1), some (.int k1), some (.int v), some (.long (lI (e1.toInt - w.toInt))), none]) rfl ?_
  refine j_lload X dX5_look_10 rfl ?_
  refine j_aload_n X 0 dX5_look_12 rfl rfl ?_
  refine j_get X hm rfl iwX5_look_X5 1 (by decide) lkX5_look_13 rfl dX5_look_13 ?_
  refine j_i2l X dX5_look_16 ?_
  refine j_st (st := [.long (lI sl.toInt), .long (lI (e1.toInt - w.toInt))]) (by rw [l_of sl]) ?_
  refine j_lrem X dX5_look_17 hnz ?_
  refine j_st (st := [.long (lI ((e1.toInt - w.toInt).tmod sl.toInt))]) (by rw [l_rem hbd hbs hps]) ?_
  refine j_lconst X dX5_look_18 (v := 0) (by decide) ?_
  refine j_st (st := [.long (lI 0), .long (lI ((e1.toInt - w.toInt).tmod sl.toInt))]) (by rw [l_c0]) ?_
  refine j_lc_ne X 46 dX5_look_19 dX5_look_20 (by decide) (fun c1 => ?_) (fun c1 => ?_)
  · skip
    refine j_iconst X dX5_look_46 (v := 0) (by decide) ?_
    exact j_iret X hlk hr (by omega) (by omega) dX5_look_47 ⟨rfl, rfl, rfl⟩
  · skip
    refine j_aload_n X 0 dX5_look_23 rfl rfl ?_
    refine j_iload_n X 1 dX5_look_24 rfl rfl ?_
    refine j_i2l X dX5_look_25 ?_
    refine j_st (st := [.long (lI e1.toInt), .ref m]) (by rw [l_of e1]) ?_
    refine j_aload_n X 0 dX5_look_26 rfl rfl ?_
    refine j_callV X nwSQ_ok (As := []) (rest := [.long (lI e1.toInt), .ref m]) hm rfl rfl (c_X5_mark l D hI b0 hm ⟨h1, h2, h3, h4, h5, h6⟩) rfl gX5_look_X5_mark ⟨rfl, ddX5_mark⟩ ⟨Nat.le_of_ble_eq_true rfl, Nat.le_of_ble_eq_true rfl⟩ (Nat.le_of_ble_eq_true rfl) rfl dX5_look_27 ⟨(by show 0 + 0 ≤ 0; omega), (by show 0 + 0 ≤ 0; omega)⟩ (fun r2 M3 n4 hr5 => ?_)
    obtain ⟨rfl, rfl, rfl⟩ := hr5
    refine j_st (st := [.int (mn mA mB), .long (lI e1.toInt), .ref m]) (by rw [hm0, hm1]; rfl) ?_
    refine j_i2l X dX5_look_30 ?_
    refine j_st (st := [.long (lI (mn mA mB).toInt), .long (lI e1.toInt), .ref m]) (by rw [l_of (mn mA mB)]) ?_
    refine j_callV X nwSQ_ok (As := [.long (lI e1.toInt), .long (lI (mn mA mB).toInt)]) (rest := []) hm rfl rfl (c_X5_isOver l D hI b0 hm ⟨h1, h2, h3, h4, h5, h6⟩ e1.toInt ((mn mA mB).toInt) hbe hbk) rfl gX5_look_X5_isOver ⟨rfl, ddX5_isOver⟩ ⟨Nat.le_of_ble_eq_true rfl, Nat.le_of_ble_eq_true rfl⟩ (Nat.le_of_ble_eq_true rfl) rfl dX5_look_31 ⟨(by show 0 + 0 ≤ 0; omega), (by show 0 + 0 ≤ 0; omega)⟩ (fun r6 M7 n8 hr9 => ?_)
    obtain ⟨rfl, rfl, rfl⟩ := hr9
    refine j_st (st := [.int (if e1.toInt + la.toInt ≤ (mn mA mB).toInt then 1 else 0)]) rfl ?_
    refine j_if_ne X 46 dX5_look_34 (by decide) (fun c10 => ?_) (fun c10 => ?_)
    · skip
      refine j_iconst X dX5_look_46 (v := 0) (by decide) ?_
      exact j_iret X hlk hr (by omega) (by omega) dX5_look_47 ⟨rfl, rfl, rfl⟩
    · skip
      refine j_iload_n X 3 dX5_look_37 rfl rfl ?_
      refine j_iconst X dX5_look_38 (v := 0) (by decide) ?_
      refine j_iconst X dX5_look_39 (v := 2) (by decide) ?_
      refine j_callS X nwSQ_ok (As := [.int v, .int 0, .int 2]) (rest := []) rfl (c_X5_in l D hI b0 v 0 2) rfl gX5_look_X5_in ddX5_in ⟨Nat.le_of_ble_eq_true rfl, Nat.le_of_ble_eq_true rfl⟩ (Nat.le_of_ble_eq_true rfl) rfl dX5_look_40 ⟨(by show 0 + 0 ≤ 0; omega), (by show 0 + 0 ≤ 0; omega)⟩ (fun r11 M12 n13 hr14 => ?_)
      obtain ⟨rfl, rfl, rfl⟩ := hr14
      refine j_st (st := [.int (if 0 ≤ v ∧ v ≤ 2 then 1 else 0)]) rfl ?_
      refine j_if_ne X 48 dX5_look_43 (by decide) (fun c15 => ?_) (fun c15 => ?_)
      · skip
        exact absurd ⟨tmod_0.mp ((lI_eq (tmod_big hbd) hb0).mp c1), zo_eq.mp c10, zo_ne.mp c15⟩ hno
      · skip
        refine j_iconst X dX5_look_46 (v := 0) (by decide) ?_
        exact j_iret X hlk hr (by omega) (by omega) dX5_look_47 ⟨rfl, rfl, rfl⟩
set_option maxHeartbeats 800000 in
set_option maxRecDepth 100000 in
theorem c_X5_lookS (l : Launch) (D : va_G) {ty : jT} {cA : ClassId} (hI : ty[0]? = some (cA, .int)) (b0 : Nat) {M : jM} {n m : Nat} {w sl la sp rm ln mA mB lt pr tl tk : Int32} {A B : List Ev} {qu : List Rec} (h : RF M m w sl la sp rm ln mA mB lt pr tl tk A B qu) (hTA : ∀ e ∈ A, -1000000000 ≤ e.1.toInt ∧ e.1.toInt ≤ 1000000000) (hN : okN w sl) (h16 : w.toInt ≤ 16 * sl.toInt) (hla : 0 ≤ la.toInt ∧ la.toInt ≤ 1000000) (e1 k1 v : Int32) (hok : isW w.toInt sl.toInt e1.toInt ∧ ¬ e1.toInt + la.toInt ≤ (mn mA mB).toInt ∧ (0 ≤ v ∧ v ≤ 2)) : Ct l D ty vwCl nwSQ b0 yX5_look wsX5_look 2 47 0 0 [.ref m, .int e1, .int k1, .int v] M n (fun r M' n' => r = some (.int (lkv v (agg w.toInt e1.toInt k1 A))) ∧ n = n' ∧ RF M' m w sl la sp rm ln mA mB lt pr tl tk A B qu ∧ ∀ q, (q < m ∨ m + 6 < q) → M' q = M q) := by
  obtain ⟨sm, my, gr, rc, ft, fk, fv, kp, mk, qa, hm, hr0, hk0, hk1, hm0, hm1, hlA, hlB, hlQ, hA, hB, hQ⟩ := id h
  have hm : M m = some (.inr (5, [.int w, .int sl, .int la, .int sp, .int rm, .int ln, .ref (m + 1), .ref (m + 2), .ref (m + 3), .ref (m + 4), .ref (m + 5), .ref (m + 6), .int (nI qu.length), .int lt, .int pr, .int tl, .int tk, .int sm, .int my, .int gr, .int rc])) := hm
  obtain ⟨h1, h2, h3, h4, h5, h6⟩ := id hr0
  have hTt : okts ft A.length := fun i hi => hTA _ (List.mem_of_getElem? (hA i hi))
  have hv1 := i_rng (mn mA mB)
  have hbk : bigI (mn mA mB).toInt := ⟨by omega, by omega⟩
  have hv2 := i_rng e1
  have hbe : bigI (e1.toInt + la.toInt) := ⟨by omega, by omega⟩
  have hbd : bigI (e1.toInt - w.toInt) := ⟨by have := hN.1; omega, by have := hN.1; omega⟩
  have hbs : bigI sl.toInt := ⟨by have := hN.2; omega, by have := hN.2; omega⟩
  have hb0 : bigI 0 := ⟨by omega, by omega⟩
  have hps : 0 < sl.toInt := by have := hN.2; omega
  have hnz : ¬ lI sl.toInt = 0 := fun q => by rw [l_c0] at q; have := (lI_eq hbs hb0).mp q; omega
  refine j_start (cc := cX5_look) (maxL := 6) (ret := (some .int)) (by decide) rfl [some (.ref m), some (.int e1), some (.int k1), some (.int v), none, none] (Nat.le_of_ble_eq_true rfl) rfl ?_
  intro p e s m0 below meth c X hlk hr hnm
  refine j_iload_n X 1 dX5_look_0 rfl rfl ?_
  refine j_i2l X dX5_look_1 ?_
  refine j_st (st := [.long (lI e1.toInt)]) (by rw [l_of e1]) ?_
  refine j_aload_n X 0 dX5_look_2 rfl rfl ?_
  refine j_get X hm rfl iwX5_look_X5 0 (by decide) lkX5_look_7 rfl dX5_look_3 ?_
  refine j_i2l X dX5_look_6 ?_
  refine j_st (st := [.long (lI w.toInt), .long (lI e1.toInt)]) (by rw [l_of w]) ?_
  refine j_lsub X dX5_look_7 ?_
  refine j_st (st := [.long (lI (e1.toInt - w.toInt))]) (by rw [lI_sub]) ?_
  refine j_lstore X dX5_look_8 (by decide) rfl (L' := [some (.ref m), some (.int e1), some (.int k1), some (.int v), some (.long (lI (e1.toInt - w.toInt))), none]) rfl ?_
  refine j_lload X dX5_look_10 rfl ?_
  refine j_aload_n X 0 dX5_look_12 rfl rfl ?_
  refine j_get X hm rfl iwX5_look_X5 1 (by decide) lkX5_look_13 rfl dX5_look_13 ?_
  refine j_i2l X dX5_look_16 ?_
  refine j_st (st := [.long (lI sl.toInt), .long (lI (e1.toInt - w.toInt))]) (by rw [l_of sl]) ?_
  refine j_lrem X dX5_look_17 hnz ?_
  refine j_st (st := [.long (lI ((e1.toInt - w.toInt).tmod sl.toInt))]) (by rw [l_rem hbd hbs hps]) ?_
  refine j_lconst X dX5_look_18 (v := 0) (by decide) ?_
  refine j_st (st := [.long (lI 0), .long (lI ((e1.toInt - w.toInt).tmod sl.toInt))]) (by rw [l_c0]) ?_
  refine j_lc_ne X 46 dX5_look_19 dX5_look_20 (by decide) (fun c16 => ?_) (fun c16 => ?_)
  · skip
    exact absurd ((lI_eq (tmod_big hbd) hb0).mpr (tmod_0.mpr hok.1)) c16
  · skip
    refine j_aload_n X 0 dX5_look_23 rfl rfl ?_
    refine j_iload_n X 1 dX5_look_24 rfl rfl ?_
    refine j_i2l X dX5_look_25 ?_
    refine j_st (st := [.long (lI e1.toInt), .ref m]) (by rw [l_of e1]) ?_
    refine j_aload_n X 0 dX5_look_26 rfl rfl ?_
    refine j_callV X nwSQ_ok (As := []) (rest := [.long (lI e1.toInt), .ref m]) hm rfl rfl (c_X5_mark l D hI b0 hm ⟨h1, h2, h3, h4, h5, h6⟩) rfl gX5_look_X5_mark ⟨rfl, ddX5_mark⟩ ⟨Nat.le_of_ble_eq_true rfl, Nat.le_of_ble_eq_true rfl⟩ (Nat.le_of_ble_eq_true rfl) rfl dX5_look_27 ⟨(by show 0 + 0 ≤ 0; omega), (by show 0 + 0 ≤ 0; omega)⟩ (fun r17 M18 n19 hr20 => ?_)
    obtain ⟨rfl, rfl, rfl⟩ := hr20
    refine j_st (st := [.int (mn mA mB), .long (lI e1.toInt), .ref m]) (by rw [hm0, hm1]; rfl) ?_
    refine j_i2l X dX5_look_30 ?_
    refine j_st (st := [.long (lI (mn mA mB).toInt), .long (lI e1.toInt), .ref m]) (by rw [l_of (mn mA mB)]) ?_
    refine j_callV X nwSQ_ok (As := [.long (lI e1.toInt), .long (lI (mn mA mB).toInt)]) (rest := []) hm rfl rfl (c_X5_isOver l D hI b0 hm ⟨h1, h2, h3, h4, h5, h6⟩ e1.toInt ((mn mA mB).toInt) hbe hbk) rfl gX5_look_X5_isOver ⟨rfl, ddX5_isOver⟩ ⟨Nat.le_of_ble_eq_true rfl, Nat.le_of_ble_eq_true rfl⟩ (Nat.le_of_ble_eq_true rfl) rfl dX5_look_31 ⟨(by show 0 + 0 ≤ 0; omega), (by show 0 + 0 ≤ 0; omega)⟩ (fun r21 M22 n23 hr24 => ?_)
    obtain ⟨rfl, rfl, rfl⟩ := hr24
    refine j_st (st := [.int (if e1.toInt + la.toInt ≤ (mn mA mB).toInt then 1 else 0)]) rfl ?_
    refine j_if_ne X 46 dX5_look_34 (by decide) (fun c25 => ?_) (fun c25 => ?_)
    · skip
      exact absurd (zo_ne.mp c25) hok.2.1
    · skip
      refine j_iload_n X 3 dX5_look_37 rfl rfl ?_
      refine j_iconst X dX5_look_38 (v := 0) (by decide) ?_
      refine j_iconst X dX5_look_39 (v := 2) (by decide) ?_
      refine j_callS X nwSQ_ok (As := [.int v, .int 0, .int 2]) (rest := []) rfl (c_X5_in l D hI b0 v 0 2) rfl gX5_look_X5_in ddX5_in ⟨Nat.le_of_ble_eq_true rfl, Nat.le_of_ble_eq_true rfl⟩ (Nat.le_of_ble_eq_true rfl) rfl dX5_look_40 ⟨(by show 0 + 0 ≤ 0; omega), (by show 0 + 0 ≤ 0; omega)⟩ (fun r26 M27 n28 hr29 => ?_)
      obtain ⟨rfl, rfl, rfl⟩ := hr29
      refine j_st (st := [.int (if 0 ≤ v ∧ v ≤ 2 then 1 else 0)]) rfl ?_
      refine j_if_ne X 48 dX5_look_43 (by decide) (fun c30 => ?_) (fun c30 => ?_)
      · skip
        refine j_aload_n X 0 dX5_look_48 rfl rfl ?_
        refine j_iload_n X 1 dX5_look_49 rfl rfl ?_
        refine j_i2l X dX5_look_50 ?_
        refine j_st (st := [.long (lI e1.toInt), .ref m]) (by rw [l_of e1]) ?_
        refine j_iload_n X 2 dX5_look_51 rfl rfl ?_
        refine j_callV X nwSQ_ok (As := [.long (lI e1.toInt), .int k1]) (rest := []) hm rfl rfl (c_X5_gather l D hI b0 hm ⟨h1, h2, h3, h4, h5, h6⟩ hk0 hlA hN hTt e1.toInt ⟨by omega, by omega⟩ k1) rfl gX5_look_X5_gather ⟨rfl, ddX5_gather⟩ ⟨Nat.le_of_ble_eq_true rfl, Nat.le_of_ble_eq_true rfl⟩ (Nat.le_of_ble_eq_true rfl) rfl dX5_look_52 ⟨(by show 0 + 0 ≤ 0; omega), (by show 0 + 0 ≤ 0; omega)⟩ (fun r31 M32 n33 hr34 => ?_)
        obtain ⟨rfl, rfl, hmg, hfg⟩ := hr34
        refine j_st (st := []) rfl ?_
        rw [gR_agg hA A.length (Nat.le_refl _), List.take_length] at hmg
        have hmg : M32 m = some (.inr (5, [.int w, .int sl, .int la, .int sp, .int rm, .int ln, .ref (m + 1), .ref (m + 2), .ref (m + 3), .ref (m + 4), .ref (m + 5), .ref (m + 6), .int (nI qu.length), .int lt, .int pr, .int tl, .int tk, .int ((agg w.toInt e1.toInt k1 A).1), .int ((agg w.toInt e1.toInt k1 A).2.1), .int ((agg w.toInt e1.toInt k1 A).2.2), .int rc])) := hmg
        have h35 : M32 (m + 1) = some (.inl (0, 400, .inl ft)) := by rw [hfg _ (by omega)]; exact h1
        have h36 : M32 (m + 2) = some (.inl (0, 400, .inl fk)) := by rw [hfg _ (by omega)]; exact h2
        have h37 : M32 (m + 3) = some (.inl (0, 400, .inl fv)) := by rw [hfg _ (by omega)]; exact h3
        have h38 : M32 (m + 4) = some (.inl (0, 2, .inl kp)) := by rw [hfg _ (by omega)]; exact h4
        have h39 : M32 (m + 5) = some (.inl (0, 2, .inl mk)) := by rw [hfg _ (by omega)]; exact h5
        have h40 : M32 (m + 6) = some (.inl (0, 2400, .inl qa)) := by rw [hfg _ (by omega)]; exact h6
        have hfg2 : ∀ q, (q < m ∨ m + 6 < q) → M32 q = M q := fun q hq => hfg q (by omega)
        refine j_iload_n X 3 dX5_look_55 rfl rfl ?_
        refine j_if_ne X 66 dX5_look_56 (by decide) (fun c41 => ?_) (fun c41 => ?_)
        · skip
          refine j_iload_n X 3 dX5_look_66 rfl rfl ?_
          refine j_iconst X dX5_look_67 (v := 1) (by decide) ?_
          refine j_icmp_ne X 78 dX5_look_68 (by decide) (fun c42 => ?_) (fun c42 => ?_)
          · skip
            refine j_aload_n X 0 dX5_look_78 rfl rfl ?_
            refine j_get X hmg rfl iwX5_look_X5 19 (by decide) lkX5_look_115 rfl dX5_look_79 ?_
            exact j_iret X hlk hr (by omega) (by omega) dX5_look_82 ⟨congrArg (fun z => some (Value.int z)) (show _ = lkv v _ from ((if_neg c41).trans ((if_neg c42).trans (if_pos (lk_2 hok.2.2 c41 c42)))).symm), rfl, ⟨_, _, _, _, _, _, _, _, _, _, hmg, ⟨h35, h36, h37, h38, h39, h40⟩, hk0, hk1, hm0, hm1, hlA, hlB, hlQ, hA, hB, hQ⟩, hfg2⟩
          · skip
            refine j_aload_n X 0 dX5_look_71 rfl rfl ?_
            refine j_get X hmg rfl iwX5_look_X5 18 (by decide) lkX5_look_112 rfl dX5_look_72 ?_
            refine j_goto X 82 dX5_look_75 (by decide) ?_
            exact j_iret X hlk hr (by omega) (by omega) dX5_look_82 ⟨congrArg (fun z => some (Value.int z)) (show _ = lkv v _ from ((if_neg (by rw [c42]; decide)).trans (if_pos c42)).symm), rfl, ⟨_, _, _, _, _, _, _, _, _, _, hmg, ⟨h35, h36, h37, h38, h39, h40⟩, hk0, hk1, hm0, hm1, hlA, hlB, hlQ, hA, hB, hQ⟩, hfg2⟩
        · skip
          refine j_aload_n X 0 dX5_look_59 rfl rfl ?_
          refine j_get X hmg rfl iwX5_look_X5 17 (by decide) lkX5_look_109 rfl dX5_look_60 ?_
          refine j_goto X 82 dX5_look_63 (by decide) ?_
          exact j_iret X hlk hr (by omega) (by omega) dX5_look_82 ⟨congrArg (fun z => some (Value.int z)) (show _ = lkv v _ from (if_pos c41).symm), rfl, ⟨_, _, _, _, _, _, _, _, _, _, hmg, ⟨h35, h36, h37, h38, h39, h40⟩, hk0, hk1, hm0, hm1, hlA, hlB, hlQ, hA, hB, hQ⟩, hfg2⟩
      · skip
        exact absurd hok.2.2 (zo_eq.mp c30)
set_option maxHeartbeats 800000 in
set_option maxRecDepth 100000 in
theorem c_X5_windows (l : Launch) (D : va_G) {ty : jT} {cA : ClassId} (hI : ty[0]? = some (cA, .int)) (b0 : Nat) {M : jM} {n m : Nat} {w sl la sp rm ln mA mB lt pr tl tk : Int32} {A B : List Ev} {qu : List Rec} (h : RF M m w sl la sp rm ln mA mB lt pr tl tk A B qu) (hTA : ∀ e ∈ A, -1000000000 ≤ e.1.toInt ∧ e.1.toInt ≤ 1000000000) (hN : okN w sl) (h16 : w.toInt ≤ 16 * sl.toInt) (hla : 0 ≤ la.toInt ∧ la.toInt ≤ 1000000) {Gs : List Grp} (hGL : GL w.toInt sl.toInt ((mn mA mB).toInt - la.toInt) A Gs) : Ct l D ty vwCl nwSQ b0 yX5_windows wsX5_windows 2 52 0 0 [.ref m] M n (j_rd (.int (nI (wc (-2147483648) Gs))) M n) := by
  obtain ⟨sm, my, gr, rc, ft, fk, fv, kp, mk, qa, hm, hr0, hk0, hk1, hm0, hm1, hlA, hlB, hlQ, hA, hB, hQ⟩ := id h
  have hm : M m = some (.inr (5, [.int w, .int sl, .int la, .int sp, .int rm, .int ln, .ref (m + 1), .ref (m + 2), .ref (m + 3), .ref (m + 4), .ref (m + 5), .ref (m + 6), .int (nI qu.length), .int lt, .int pr, .int tl, .int tk, .int sm, .int my, .int gr, .int rc])) := hm
  obtain ⟨h1, h2, h3, h4, h5, h6⟩ := id hr0
  have hTt : okts ft A.length := fun i hi => hTA _ (List.mem_of_getElem? (hA i hi))
  have hv1 := i_rng (mn mA mB)
  have hbk : bigI (mn mA mB).toInt := ⟨by omega, by omega⟩
  refine j_start (cc := cX5_windows) (maxL := 4) (ret := (some .int)) (by decide) rfl [some (.ref m), none, none, none] (Nat.le_of_ble_eq_true rfl) rfl ?_
  intro p e s m0 below meth c X hlk hr hnm
  have outer : ∀ (f : Nat) (b : Int) (dn td : List Grp), (4000000000 - b).toNat < f → -4000000000 ≤ b → b < 4000000000 → Gs = dn ++ td → (∀ g ∈ td, b < g.1.toInt) → (∀ g ∈ dn, g.1.toInt ≤ b) → J p l e { frames := 2, cells := 0, slots := 0, locals := 52 } s m0 ([.ref m] : List Value).toArray below meth c D ty vwCl b0 (MQ below (j_Q D ty vwCl b0 (j_rd (.int (nI (wc (-2147483648) Gs))) M n)) ([.ref m] : List Value).toArray s 0 0 (fun q => b0 ≤ q)) 4 M n 0 0 10 [some (.ref m), some (.int (nI (wc (-2147483648) dn))), some (.long (lI (nE w.toInt sl.toInt ft b A.length))), none] [] := by
    intro f
    induction f with
    | zero => intro b dn td hf; exact absurd hf (Nat.not_lt_zero _)
    | succ f ih =>
      intro b dn td hf hb1 hb2 hsp htb hdb
      have hG2 : Gs = dn ++ (td ++ []) := by rw [hsp, List.append_nil]
      obtain ⟨hx1, hx2, hx3⟩ := step_end (σ := 4000000000) hN.1.1 hN.2.1 h16 hGL hG2 (fun g _ => by have := i_rng g.1; omega) htb hA
      have hzr := nE_rng (b := b) hN.1 hN.2 hTt
      generalize hz : nE w.toInt sl.toInt ft b A.length = z at hx1 hx2 hx3 hzr ⊢
      have hbz : bigI z := ⟨by omega, by omega⟩
      have hbe : bigI (z + la.toInt) := ⟨by omega, by omega⟩
      have hb4 : bigI 4000000000 := ⟨by omega, by omega⟩
      refine j_lload_n X 2 dX5_windows_10 rfl rfl ?_
      refine j_ldc2 X dX5_windows_11 wdX5_windows_c99 ?_
      refine j_st (st := [.long (lI 4000000000), .long (lI z)]) (by rw [l_c4]) ?_
      refine j_lc_ge X 48 dX5_windows_14 dX5_windows_15 (by decide) (fun c43 => ?_) (fun c43 => ?_)
      · skip
        refine j_iload_n X 1 dX5_windows_48 rfl rfl ?_
        exact j_iret X hlk hr (by omega) (by omega) dX5_windows_49 (by have htd := hx1 (Or.inl ((lI_le hb4 hbz).mp c43)); subst htd; rw [List.append_nil] at hsp; subst hsp; exact ⟨rfl, rfl, rfl⟩)
      · skip
        refine j_aload_n X 0 dX5_windows_18 rfl rfl ?_
        refine j_lload_n X 2 dX5_windows_19 rfl rfl ?_
        refine j_aload_n X 0 dX5_windows_20 rfl rfl ?_
        refine j_callV X nwSQ_ok (As := []) (rest := [.long (lI z), .ref m]) hm rfl rfl (c_X5_mark l D hI b0 hm ⟨h1, h2, h3, h4, h5, h6⟩) rfl gX5_windows_X5_mark ⟨rfl, ddX5_mark⟩ ⟨Nat.le_of_ble_eq_true rfl, Nat.le_of_ble_eq_true rfl⟩ (Nat.le_of_ble_eq_true rfl) rfl dX5_windows_21 ⟨(by show 0 + 0 ≤ 0; omega), (by show 0 + 0 ≤ 0; omega)⟩ (fun r44 M45 n46 hr47 => ?_)
        obtain ⟨rfl, rfl, rfl⟩ := hr47
        refine j_st (st := [.int (mn mA mB), .long (lI z), .ref m]) (by rw [hm0, hm1]; rfl) ?_
        refine j_i2l X dX5_windows_24 ?_
        refine j_st (st := [.long (lI (mn mA mB).toInt), .long (lI z), .ref m]) (by rw [l_of (mn mA mB)]) ?_
        refine j_callV X nwSQ_ok (As := [.long (lI z), .long (lI (mn mA mB).toInt)]) (rest := []) hm rfl rfl (c_X5_isOver l D hI b0 hm ⟨h1, h2, h3, h4, h5, h6⟩ z ((mn mA mB).toInt) hbe hbk) rfl gX5_windows_X5_isOver ⟨rfl, ddX5_isOver⟩ ⟨Nat.le_of_ble_eq_true rfl, Nat.le_of_ble_eq_true rfl⟩ (Nat.le_of_ble_eq_true rfl) rfl dX5_windows_25 ⟨(by show 0 + 0 ≤ 0; omega), (by show 0 + 0 ≤ 0; omega)⟩ (fun r48 M49 n50 hr51 => ?_)
        obtain ⟨rfl, rfl, rfl⟩ := hr51
        refine j_st (st := [.int (if z + la.toInt ≤ (mn mA mB).toInt then 1 else 0)]) rfl ?_
        refine j_if_eq X 35 dX5_windows_28 (by decide) (fun c52 => ?_) (fun c52 => ?_)
        · skip
          refine j_iload_n X 1 dX5_windows_35 rfl rfl ?_
          refine j_iconst X dX5_windows_36 (v := 1) (by decide) ?_
          refine j_iadd X dX5_windows_37 ?_
          refine j_st (st := [.int (nI (wc (-2147483648) dn + 1))]) (by rw [show (nI (wc (-2147483648) dn)) + 1 = nI (wc (-2147483648) dn + 1) from nI_add _ 1]) ?_
          refine j_istore_n X 1 dX5_windows_38 rfl (by decide) rfl (L' := [some (.ref m), some (.int (nI (wc (-2147483648) dn + 1))), some (.long (lI z)), none]) rfl ?_
          refine j_aload_n X 0 dX5_windows_39 rfl rfl ?_
          refine j_lload_n X 2 dX5_windows_40 rfl rfl ?_
          refine j_callV X nwSQ_ok (As := [.long (lI z)]) (rest := []) hm rfl rfl (c_X5_nextEnd l D hI b0 hm ⟨h1, h2, h3, h4, h5, h6⟩ hk0 hlA hN hTt z ⟨by omega, by omega⟩) rfl gX5_windows_X5_nextEnd ⟨rfl, ddX5_nextEnd⟩ ⟨Nat.le_of_ble_eq_true rfl, Nat.le_of_ble_eq_true rfl⟩ (Nat.le_of_ble_eq_true rfl) rfl dX5_windows_41 ⟨(by show 0 + 0 ≤ 0; omega), (by show 0 + 0 ≤ 0; omega)⟩ (fun r53 M54 n55 hr56 => ?_)
          obtain ⟨rfl, rfl, rfl⟩ := hr56
          refine j_st (st := [.long (lI (nE w.toInt sl.toInt ft z A.length))]) rfl ?_
          refine j_lstore_n X 2 dX5_windows_44 rfl (by decide) rfl (L' := [some (.ref m), some (.int (nI (wc (-2147483648) dn + 1))), some (.long (lI (nE w.toInt sl.toInt ft z A.length))), none]) rfl ?_
          refine j_goto X 10 dX5_windows_45 (by decide) ?_
          refine j_wk (L2 := [some (.ref m), some (.int (nI (wc (-2147483648) dn + 1))), some (.long (lI (nE w.toInt sl.toInt ft z A.length))), none]) ⟨rfl, rfl, rfl, trivial⟩ ?_
          have hz4 : z < 4000000000 := Int.not_le.mp (fun q => c43 ((lI_le hb4 hbz).mpr q))
          obtain ⟨hbz2, hzW, i0, hi0, hin0⟩ := hx3 hz4
          have hzo : ¬ z + la.toInt ≤ (mn mA mB).toInt := zo_eq.mp c52
          have hpw : td.Pairwise gLt := by have h9 := hGL.1; rw [hsp] at h9; exact (List.pairwise_append.mp h9).2.1
          obtain ⟨bl, td2, hbt, hbl, htd⟩ := blk hpw hx2
          obtain ⟨g0, hg0, hgz0, _⟩ := hGL.2.2 _ (List.mem_of_getElem? (hA i0 hi0)) z hzW hin0 (by omega)
          rw [hsp] at hg0
          have hne : bl ≠ [] := blk_ne (z := z) ⟨g0, (List.mem_append.mp hg0).elim (fun h9 => by have := hdb g0 h9; omega) (fun h9 => hbt ▸ h9), hgz0⟩ htd
          have hti0 := hTt i0 hi0
          have hzlo : -2147483648 < z := by have := hin0.1; omega
          have hi := ih z (dn ++ bl) td2 (toNat_dec hf hbz2 hz4) (Int.le_trans hb1 (Int.le_of_lt hbz2)) hz4 (by rw [hsp, hbt, List.append_assoc]) htd (fun g hg => (List.mem_append.mp hg).elim (fun h => by have := hdb g h; omega) (fun h => by have := hbl g h; omega))
          rw [wc_step hzlo (fun g hg => by have := hdb g hg; omega) hbl hne] at hi
          exact hi
        · skip
          refine j_iload_n X 1 dX5_windows_31 rfl rfl ?_
          refine j_goto X 38 dX5_windows_32 (by decide) ?_
          refine j_istore_n X 1 dX5_windows_38 rfl (by decide) rfl (L' := [some (.ref m), some (.int (nI (wc (-2147483648) dn))), some (.long (lI z)), none]) rfl ?_
          refine j_aload_n X 0 dX5_windows_39 rfl rfl ?_
          refine j_lload_n X 2 dX5_windows_40 rfl rfl ?_
          refine j_callV X nwSQ_ok (As := [.long (lI z)]) (rest := []) hm rfl rfl (c_X5_nextEnd l D hI b0 hm ⟨h1, h2, h3, h4, h5, h6⟩ hk0 hlA hN hTt z ⟨by omega, by omega⟩) rfl gX5_windows_X5_nextEnd ⟨rfl, ddX5_nextEnd⟩ ⟨Nat.le_of_ble_eq_true rfl, Nat.le_of_ble_eq_true rfl⟩ (Nat.le_of_ble_eq_true rfl) rfl dX5_windows_41 ⟨(by show 0 + 0 ≤ 0; omega), (by show 0 + 0 ≤ 0; omega)⟩ (fun r57 M58 n59 hr60 => ?_)
          obtain ⟨rfl, rfl, rfl⟩ := hr60
          refine j_st (st := [.long (lI (nE w.toInt sl.toInt ft z A.length))]) rfl ?_
          refine j_lstore_n X 2 dX5_windows_44 rfl (by decide) rfl (L' := [some (.ref m), some (.int (nI (wc (-2147483648) dn))), some (.long (lI (nE w.toInt sl.toInt ft z A.length))), none]) rfl ?_
          refine j_goto X 10 dX5_windows_45 (by decide) ?_
          refine j_wk (L2 := [some (.ref m), some (.int (nI (wc (-2147483648) dn))), some (.long (lI (nE w.toInt sl.toInt ft z A.length))), none]) ⟨rfl, rfl, rfl, trivial⟩ ?_
          have hz4 : z < 4000000000 := Int.not_le.mp (fun q => c43 ((lI_le hb4 hbz).mpr q))
          obtain ⟨hbz2, hzW, i0, hi0, hin0⟩ := hx3 hz4
          have hzo : z + la.toInt ≤ (mn mA mB).toInt := zo_ne.mp c52
          exact ih z dn td (toNat_dec hf hbz2 hz4) (Int.le_trans hb1 (Int.le_of_lt hbz2)) hz4 hsp (fun g hg => by have h9 := (hGL.2.1 g (by rw [hsp]; exact List.mem_append_right _ hg)).2.1; omega) (fun g hg => by have := hdb g hg; omega)
  refine j_iconst X dX5_windows_0 (v := 0) (by decide) ?_
  refine j_istore_n X 1 dX5_windows_1 rfl (by decide) rfl (L' := [some (.ref m), some (.int 0), none, none]) rfl ?_
  refine j_aload_n X 0 dX5_windows_2 rfl rfl ?_
  refine j_ldc2 X dX5_windows_3 wdX5_windows_c121 ?_
  refine j_st (st := [.long (lI (-4000000000)), .ref m]) (by rw [l_c4n]) ?_
  refine j_callV X nwSQ_ok (As := [.long (lI (-4000000000))]) (rest := []) hm rfl rfl (c_X5_nextEnd l D hI b0 hm ⟨h1, h2, h3, h4, h5, h6⟩ hk0 hlA hN hTt (-4000000000) ⟨by omega, by omega⟩) rfl gX5_windows_X5_nextEnd ⟨rfl, ddX5_nextEnd⟩ ⟨Nat.le_of_ble_eq_true rfl, Nat.le_of_ble_eq_true rfl⟩ (Nat.le_of_ble_eq_true rfl) rfl dX5_windows_6 ⟨(by show 0 + 0 ≤ 0; omega), (by show 0 + 0 ≤ 0; omega)⟩ (fun r61 M62 n63 hr64 => ?_)
  obtain ⟨rfl, rfl, rfl⟩ := hr64
  refine j_st (st := [.long (lI (nE w.toInt sl.toInt ft (-4000000000) A.length))]) rfl ?_
  refine j_lstore_n X 2 dX5_windows_9 rfl (by decide) rfl (L' := [some (.ref m), some (.int 0), some (.long (lI (nE w.toInt sl.toInt ft (-4000000000) A.length))), none]) rfl ?_
  refine j_wk (L2 := [some (.ref m), some (.int 0), some (.long (lI (nE w.toInt sl.toInt ft (-4000000000) A.length))), none]) ⟨rfl, rfl, rfl, trivial⟩ ?_
  exact outer 8000000001 (-4000000000) [] Gs (by decide) (by omega) (by omega) rfl (fun g hg => by have := i_rng g.1; omega) (fun g hg => absurd hg List.not_mem_nil)
set_option maxHeartbeats 800000 in
set_option maxRecDepth 100000 in
theorem c_X5_count (l : Launch) (D : va_G) {ty : jT} {cA : ClassId} (hI : ty[0]? = some (cA, .int)) (b0 : Nat) {M : jM} {n m : Nat} {w sl la sp rm ln mA mB lt pr tl tk : Int32} {A B : List Ev} {qu : List Rec} (h : RF M m w sl la sp rm ln mA mB lt pr tl tk A B qu) (hTA : ∀ e ∈ A, -1000000000 ≤ e.1.toInt ∧ e.1.toInt ≤ 1000000000) (hN : okN w sl) (h16 : w.toInt ≤ 16 * sl.toInt) (hla : 0 ≤ la.toInt ∧ la.toInt ≤ 1000000) {Gs : List Grp} (hGL : GL w.toInt sl.toInt ((mn mA mB).toInt - la.toInt) A Gs) (v : Int32) : Ct l D ty vwCl nwSQ b0 yX5_count wsX5_count 3 75 0 0 [.ref m, .int v] M n (j_rd (.int (cntv v (nI A.length) (nI B.length) lt mA mB (nI (wc (-2147483648) Gs)) pr tl tk)) M n) := by
  obtain ⟨sm, my, gr, rc, ft, fk, fv, kp, mk, qa, hm, hr0, hk0, hk1, hm0, hm1, hlA, hlB, hlQ, hA, hB, hQ⟩ := id h
  have hm : M m = some (.inr (5, [.int w, .int sl, .int la, .int sp, .int rm, .int ln, .ref (m + 1), .ref (m + 2), .ref (m + 3), .ref (m + 4), .ref (m + 5), .ref (m + 6), .int (nI qu.length), .int lt, .int pr, .int tl, .int tk, .int sm, .int my, .int gr, .int rc])) := hm
  obtain ⟨h1, h2, h3, h4, h5, h6⟩ := id hr0
  refine j_start (cc := cX5_count) (maxL := 2) (ret := (some .int)) (by decide) rfl [some (.ref m), some (.int v)] (Nat.le_of_ble_eq_true rfl) rfl ?_
  intro p e s m0 below meth c X hlk hr hnm
  refine j_iload_n X 1 dX5_count_0 rfl rfl ?_
  by_cases c65 : v = 0
  · skip
    refine j_tableIn X 52 dX5_count_1 (by rw [c65]; decide) (by rw [c65]; decide) (off := 51) (by rw [c65]; decide) (by decide) ?_
    subst c65
    refine j_aload_n X 0 dX5_count_52 rfl rfl ?_
    refine j_get X hm rfl iwX5_count_X5 9 (by decide) lkX5_count_32 rfl dX5_count_53 ?_
    refine j_iload_n X 1 dX5_count_56 rfl rfl ?_
    refine j_iald X h4 hI (vp_in_nI (n := 0) (by decide) (by decide)) (v := nI A.length) (hk0) dX5_count_57 ?_
    exact j_iret X hlk hr (by omega) (by omega) dX5_count_58 ⟨congrArg (fun z => some (Value.int z)) (show _ = cntv _ _ _ _ _ _ _ _ _ _ from (if_pos rfl).symm), rfl, rfl⟩
  by_cases c66 : v = 1
  · skip
    refine j_tableIn X 52 dX5_count_1 (by rw [c66]; decide) (by rw [c66]; decide) (off := 51) (by rw [c66]; decide) (by decide) ?_
    subst c66
    refine j_aload_n X 0 dX5_count_52 rfl rfl ?_
    refine j_get X hm rfl iwX5_count_X5 9 (by decide) lkX5_count_32 rfl dX5_count_53 ?_
    refine j_iload_n X 1 dX5_count_56 rfl rfl ?_
    refine j_iald X h4 hI (vp_in_nI (n := 1) (by decide) (by decide)) (v := nI B.length) (hk1) dX5_count_57 ?_
    exact j_iret X hlk hr (by omega) (by omega) dX5_count_58 ⟨congrArg (fun z => some (Value.int z)) (show _ = cntv _ _ _ _ _ _ _ _ _ _ from ((if_neg (by decide)).trans (if_pos rfl)).symm), rfl, rfl⟩
  by_cases c67 : v = 2
  · skip
    refine j_tableIn X 59 dX5_count_1 (by rw [c67]; decide) (by rw [c67]; decide) (off := 58) (by rw [c67]; decide) (by decide) ?_
    subst c67
    refine j_aload_n X 0 dX5_count_59 rfl rfl ?_
    refine j_get X hm rfl iwX5_count_X5 13 (by decide) lkX5_count_48 rfl dX5_count_60 ?_
    exact j_iret X hlk hr (by omega) (by omega) dX5_count_63 ⟨congrArg (fun z => some (Value.int z)) (show _ = cntv _ _ _ _ _ _ _ _ _ _ from ((if_neg (by decide)).trans ((if_neg (by decide)).trans (if_pos rfl))).symm), rfl, rfl⟩
  by_cases c68 : v = 3
  · skip
    refine j_tableIn X 64 dX5_count_1 (by rw [c68]; decide) (by rw [c68]; decide) (off := 63) (by rw [c68]; decide) (by decide) ?_
    subst c68
    refine j_aload_n X 0 dX5_count_64 rfl rfl ?_
    refine j_get X hm rfl iwX5_count_X5 10 (by decide) lkX5_count_35 rfl dX5_count_65 ?_
    refine j_iload_n X 1 dX5_count_68 rfl rfl ?_
    refine j_iconst X dX5_count_69 (v := 3) (by decide) ?_
    refine j_isub X dX5_count_70 ?_
    refine j_st (st := [.int 0, .ref (m + 5)]) rfl ?_
    refine j_iald X h5 hI (vp_in_nI (n := 0) (by decide) (by decide)) (v := mA) (hm0) dX5_count_71 ?_
    exact j_iret X hlk hr (by omega) (by omega) dX5_count_72 ⟨congrArg (fun z => some (Value.int z)) (show _ = cntv _ _ _ _ _ _ _ _ _ _ from ((if_neg (by decide)).trans ((if_neg (by decide)).trans ((if_neg (by decide)).trans (if_pos rfl)))).symm), rfl, rfl⟩
  by_cases c69 : v = 4
  · skip
    refine j_tableIn X 64 dX5_count_1 (by rw [c69]; decide) (by rw [c69]; decide) (off := 63) (by rw [c69]; decide) (by decide) ?_
    subst c69
    refine j_aload_n X 0 dX5_count_64 rfl rfl ?_
    refine j_get X hm rfl iwX5_count_X5 10 (by decide) lkX5_count_35 rfl dX5_count_65 ?_
    refine j_iload_n X 1 dX5_count_68 rfl rfl ?_
    refine j_iconst X dX5_count_69 (v := 3) (by decide) ?_
    refine j_isub X dX5_count_70 ?_
    refine j_st (st := [.int 1, .ref (m + 5)]) rfl ?_
    refine j_iald X h5 hI (vp_in_nI (n := 1) (by decide) (by decide)) (v := mB) (hm1) dX5_count_71 ?_
    exact j_iret X hlk hr (by omega) (by omega) dX5_count_72 ⟨congrArg (fun z => some (Value.int z)) (show _ = cntv _ _ _ _ _ _ _ _ _ _ from ((if_neg (by decide)).trans ((if_neg (by decide)).trans ((if_neg (by decide)).trans ((if_neg (by decide)).trans (if_pos rfl))))).symm), rfl, rfl⟩
  by_cases c70 : v = 5
  · skip
    refine j_tableIn X 73 dX5_count_1 (by rw [c70]; decide) (by rw [c70]; decide) (off := 72) (by rw [c70]; decide) (by decide) ?_
    subst c70
    refine j_aload_n X 0 dX5_count_73 rfl rfl ?_
    refine j_callV X nwSQ_ok (As := []) (rest := []) hm rfl rfl (c_X5_windows l D hI b0 h hTA hN h16 hla hGL) rfl gX5_count_X5_windows ⟨rfl, ddX5_windows⟩ ⟨Nat.le_of_ble_eq_true rfl, Nat.le_of_ble_eq_true rfl⟩ (Nat.le_of_ble_eq_true rfl) rfl dX5_count_74 ⟨(by show 0 + 0 ≤ 0; omega), (by show 0 + 0 ≤ 0; omega)⟩ (fun r71 M72 n73 hr74 => ?_)
    obtain ⟨rfl, rfl, rfl⟩ := hr74
    refine j_st (st := [.int (nI (wc (-2147483648) Gs))]) rfl ?_
    exact j_iret X hlk hr (by omega) (by omega) dX5_count_77 ⟨congrArg (fun z => some (Value.int z)) (show _ = cntv _ _ _ _ _ _ _ _ _ _ from ((if_neg (by decide)).trans ((if_neg (by decide)).trans ((if_neg (by decide)).trans ((if_neg (by decide)).trans ((if_neg (by decide)).trans (if_pos rfl)))))).symm), rfl, rfl⟩
  by_cases c75 : v = 6
  · skip
    refine j_tableIn X 78 dX5_count_1 (by rw [c75]; decide) (by rw [c75]; decide) (off := 77) (by rw [c75]; decide) (by decide) ?_
    subst c75
    refine j_aload_n X 0 dX5_count_78 rfl rfl ?_
    refine j_get X hm rfl iwX5_count_X5 14 (by decide) lkX5_count_51 rfl dX5_count_79 ?_
    exact j_iret X hlk hr (by omega) (by omega) dX5_count_82 ⟨congrArg (fun z => some (Value.int z)) (show _ = cntv _ _ _ _ _ _ _ _ _ _ from ((if_neg (by decide)).trans ((if_neg (by decide)).trans ((if_neg (by decide)).trans ((if_neg (by decide)).trans ((if_neg (by decide)).trans ((if_neg (by decide)).trans (if_pos rfl))))))).symm), rfl, rfl⟩
  by_cases c76 : v = 7
  · skip
    refine j_tableIn X 83 dX5_count_1 (by rw [c76]; decide) (by rw [c76]; decide) (off := 82) (by rw [c76]; decide) (by decide) ?_
    subst c76
    refine j_aload_n X 0 dX5_count_83 rfl rfl ?_
    refine j_get X hm rfl iwX5_count_X5 15 (by decide) lkX5_count_54 rfl dX5_count_84 ?_
    exact j_iret X hlk hr (by omega) (by omega) dX5_count_87 ⟨congrArg (fun z => some (Value.int z)) (show _ = cntv _ _ _ _ _ _ _ _ _ _ from ((if_neg (by decide)).trans ((if_neg (by decide)).trans ((if_neg (by decide)).trans ((if_neg (by decide)).trans ((if_neg (by decide)).trans ((if_neg (by decide)).trans ((if_neg (by decide)).trans (if_pos rfl)))))))).symm), rfl, rfl⟩
  by_cases c77 : v = 8
  · skip
    refine j_tableIn X 88 dX5_count_1 (by rw [c77]; decide) (by rw [c77]; decide) (off := 87) (by rw [c77]; decide) (by decide) ?_
    subst c77
    refine j_aload_n X 0 dX5_count_88 rfl rfl ?_
    refine j_get X hm rfl iwX5_count_X5 16 (by decide) lkX5_count_57 rfl dX5_count_89 ?_
    exact j_iret X hlk hr (by omega) (by omega) dX5_count_92 ⟨congrArg (fun z => some (Value.int z)) (show _ = cntv _ _ _ _ _ _ _ _ _ _ from ((if_neg (by decide)).trans ((if_neg (by decide)).trans ((if_neg (by decide)).trans ((if_neg (by decide)).trans ((if_neg (by decide)).trans ((if_neg (by decide)).trans ((if_neg (by decide)).trans ((if_neg (by decide)).trans (if_pos rfl))))))))).symm), rfl, rfl⟩
  · skip
    refine j_tableOut X 93 dX5_count_1 (by have q0 := lv_neT (a := 0) c65 (by decide); have q1 := lv_neT (a := 1) c66 (by decide); have q2 := lv_neT (a := 2) c67 (by decide); have q3 := lv_neT (a := 3) c68 (by decide); have q4 := lv_neT (a := 4) c69 (by decide); have q5 := lv_neT (a := 5) c70 (by decide); have q6 := lv_neT (a := 6) c75 (by decide); have q7 := lv_neT (a := 7) c76 (by decide); have q8 := lv_neT (a := 8) c77 (by decide); omega) (by decide) ?_
    refine j_bipush X dX5_count_93 (v := (-2)) (by decide) ?_
    exact j_iret X hlk hr (by omega) (by omega) dX5_count_95 ⟨congrArg (fun z => some (Value.int z)) (show _ = cntv _ _ _ _ _ _ _ _ _ _ from ((if_neg c65).trans ((if_neg c66).trans ((if_neg c67).trans ((if_neg c68).trans ((if_neg c69).trans ((if_neg c70).trans ((if_neg c75).trans ((if_neg c76).trans (if_neg c77))))))))).symm), rfl, rfl⟩
