set_option maxHeartbeats 800000 in
set_option maxRecDepth 100000 in
theorem c_X5_isKeptA (l : Launch) (D : va_G) {ty : jT} {cA : ClassId} (hI : ty[0]? = some (cA, .int)) (b0 : Nat) {M : jM} {n m : Nat} {w sl la sp rm ln qd lt pr tl tk sm my gr rc : Int32} {ft fk fv kp mk qa : Nat → Int32} (hm : M m = some (rfO m w sl la sp rm ln qd lt pr tl tk sm my gr rc)) (hr0 : RA M m ft fk fv kp mk qa) {j : Nat} (hj : j < 400) (hN : okN w sl) (htj : -1000000000 ≤ (ft j).toInt ∧ (ft j).toInt ≤ 1000000000) : Ct l D ty vwCl nwSQ b0 yX5_isKept wsX5_isKept 1 24 0 0 [.ref m, .int 0, .int (nI j)] M n (j_rd (.int (if kpA w.toInt sl.toInt la.toInt sp.toInt (mn (mk 0) (mk 1)).toInt (ft j).toInt then 1 else 0)) M n) := by
  have hm : M m = some (.inr (5, [.int w, .int sl, .int la, .int sp, .int rm, .int ln, .ref (m + 1), .ref (m + 2), .ref (m + 3), .ref (m + 4), .ref (m + 5), .ref (m + 6), .int qd, .int lt, .int pr, .int tl, .int tk, .int sm, .int my, .int gr, .int rc])) := hm
  obtain ⟨h1, h2, h3, h4, h5, h6⟩ := id hr0
  have hq1 := i_rng (mn (mk 0) (mk 1))
  have hq2 := i_rng la
  have hq3 := i_rng sp
  have hle := lastE_rng hN.1 hN.2 htj
  have hbk : bigI (mn (mk 0) (mk 1)).toInt := ⟨by omega, by omega⟩
  have hbe : bigI (lastE w.toInt sl.toInt (ft j).toInt + la.toInt) := ⟨by omega, by omega⟩
  have hb1 : bigI ((ft j).toInt + sp.toInt) := ⟨by omega, by omega⟩
  have hb2 : bigI ((mn (mk 0) (mk 1)).toInt - la.toInt) := ⟨by omega, by omega⟩
  refine j_start (cc := cX5_isKept) (maxL := 3) (ret := (some .boolean)) (by decide) rfl [some (.ref m), some (.int 0), some (.int (nI j))] (Nat.le_of_ble_eq_true rfl) rfl ?_
  intro p e s m0 below meth c X hlk hr hnm
  refine j_aload_n X 0 dX5_isKept_0 rfl rfl ?_
  refine j_get X hm rfl iwX5_isKept_X5 6 (by decide) lkX5_isKept_22 rfl dX5_isKept_1 ?_
  refine j_iload_n X 2 dX5_isKept_4 rfl rfl ?_
  refine j_iald X h1 hI (vp_in_nI (show j < 400 by omega) (by decide)) (v := ft j) (congrArg ft (nI_clamp (show j < 2 ^ 31 by omega))) dX5_isKept_5 ?_
  refine j_i2l X dX5_isKept_6 ?_
  refine j_st (st := [.long (lI (ft j).toInt)]) (by rw [l_of (ft j)]) ?_
  refine j_aload_n X 0 dX5_isKept_7 rfl rfl ?_
  refine j_get X hm rfl iwX5_isKept_X5 3 (by decide) lkX5_isKept_70 rfl dX5_isKept_8 ?_
  refine j_i2l X dX5_isKept_11 ?_
  refine j_st (st := [.long (lI sp.toInt), .long (lI (ft j).toInt)]) (by rw [l_of sp]) ?_
  refine j_ladd X dX5_isKept_12 ?_
  refine j_st (st := [.long (lI (((ft j).toInt) + sp.toInt))]) (by rw [lI_add]) ?_
  refine j_aload_n X 0 dX5_isKept_13 rfl rfl ?_
  refine j_callV X nwSQ_ok (As := []) (rest := [.long (lI (((ft j).toInt) + sp.toInt))]) hm rfl rfl (c_X5_mark l D hI b0 hm ⟨h1, h2, h3, h4, h5, h6⟩) rfl gX5_isKept_X5_mark ⟨rfl, ddX5_mark⟩ ⟨Nat.le_of_ble_eq_true rfl, Nat.le_of_ble_eq_true rfl⟩ (Nat.le_of_ble_eq_true rfl) rfl dX5_isKept_14 ⟨(by show 0 + 0 ≤ 0; omega), (by show 0 + 0 ≤ 0; omega)⟩ (fun r1 M2 n3 hr4 => ?_)
  obtain ⟨rfl, rfl, rfl⟩ := hr4
  refine j_st (st := [.int (mn (mk 0) (mk 1)), .long (lI (((ft j).toInt) + sp.toInt))]) rfl ?_
  refine j_i2l X dX5_isKept_17 ?_
  refine j_st (st := [.long (lI (mn (mk 0) (mk 1)).toInt), .long (lI (((ft j).toInt) + sp.toInt))]) (by rw [l_of (mn (mk 0) (mk 1))]) ?_
  refine j_aload_n X 0 dX5_isKept_18 rfl rfl ?_
  refine j_get X hm rfl iwX5_isKept_X5 2 (by decide) lkX5_isKept_67 rfl dX5_isKept_19 ?_
  refine j_i2l X dX5_isKept_22 ?_
  refine j_st (st := [.long (lI la.toInt), .long (lI (mn (mk 0) (mk 1)).toInt), .long (lI (((ft j).toInt) + sp.toInt))]) (by rw [l_of la]) ?_
  refine j_lsub X dX5_isKept_23 ?_
  refine j_st (st := [.long (lI (((mn (mk 0) (mk 1)).toInt) - la.toInt)), .long (lI (((ft j).toInt) + sp.toInt))]) (by rw [lI_sub]) ?_
  refine j_lc_ge X 49 dX5_isKept_24 dX5_isKept_25 (by decide) (fun c5 => ?_) (fun c5 => ?_)
  · skip
    refine j_iconst X dX5_isKept_49 (v := 1) (by decide) ?_
    refine j_goto X 54 dX5_isKept_50 (by decide) ?_
    exact j_zret X hlk hr (by omega) (by omega) (by decide) dX5_isKept_54 ⟨congrArg (fun z => some (Value.int z)) (kpA_1 ((lI_le hb2 hb1).mp c5)).symm, rfl, rfl⟩
  · skip
    refine j_iload_n X 1 dX5_isKept_28 rfl rfl ?_
    refine j_if_ne X 53 dX5_isKept_29 (by decide) (fun c6 => ?_) (fun c6 => ?_)
    · skip
      exact absurd rfl c6
    · skip
      refine j_aload_n X 0 dX5_isKept_32 rfl rfl ?_
      refine j_aload_n X 0 dX5_isKept_33 rfl rfl ?_
      refine j_iload_n X 2 dX5_isKept_34 rfl rfl ?_
      refine j_callV X nwSQ_ok (As := [.int (nI j)]) (rest := [.ref m]) hm rfl rfl (c_X5_lastEnd l D hI b0 hm ⟨h1, h2, h3, h4, h5, h6⟩ (j := j) (by omega) hN.2 htj) rfl gX5_isKept_X5_lastEnd ⟨rfl, ddX5_lastEnd⟩ ⟨Nat.le_of_ble_eq_true rfl, Nat.le_of_ble_eq_true rfl⟩ (Nat.le_of_ble_eq_true rfl) rfl dX5_isKept_35 ⟨(by show 0 + 0 ≤ 0; omega), (by show 0 + 0 ≤ 0; omega)⟩ (fun r7 M8 n9 hr10 => ?_)
      obtain ⟨rfl, rfl, rfl⟩ := hr10
      refine j_st (st := [.long (lI (lastE w.toInt sl.toInt (ft j).toInt)), .ref m]) rfl ?_
      refine j_aload_n X 0 dX5_isKept_38 rfl rfl ?_
      refine j_callV X nwSQ_ok (As := []) (rest := [.long (lI (lastE w.toInt sl.toInt (ft j).toInt)), .ref m]) hm rfl rfl (c_X5_mark l D hI b0 hm ⟨h1, h2, h3, h4, h5, h6⟩) rfl gX5_isKept_X5_mark ⟨rfl, ddX5_mark⟩ ⟨Nat.le_of_ble_eq_true rfl, Nat.le_of_ble_eq_true rfl⟩ (Nat.le_of_ble_eq_true rfl) rfl dX5_isKept_39 ⟨(by show 0 + 0 ≤ 0; omega), (by show 0 + 0 ≤ 0; omega)⟩ (fun r11 M12 n13 hr14 => ?_)
      obtain ⟨rfl, rfl, rfl⟩ := hr14
      refine j_st (st := [.int (mn (mk 0) (mk 1)), .long (lI (lastE w.toInt sl.toInt (ft j).toInt)), .ref m]) rfl ?_
      refine j_i2l X dX5_isKept_42 ?_
      refine j_st (st := [.long (lI (mn (mk 0) (mk 1)).toInt), .long (lI (lastE w.toInt sl.toInt (ft j).toInt)), .ref m]) (by rw [l_of (mn (mk 0) (mk 1))]) ?_
      refine j_callV X nwSQ_ok (As := [.long (lI (lastE w.toInt sl.toInt (ft j).toInt)), .long (lI (mn (mk 0) (mk 1)).toInt)]) (rest := []) hm rfl rfl (c_X5_isOver l D hI b0 hm ⟨h1, h2, h3, h4, h5, h6⟩ (lastE w.toInt sl.toInt (ft j).toInt) ((mn (mk 0) (mk 1)).toInt) hbe hbk) rfl gX5_isKept_X5_isOver ⟨rfl, ddX5_isOver⟩ ⟨Nat.le_of_ble_eq_true rfl, Nat.le_of_ble_eq_true rfl⟩ (Nat.le_of_ble_eq_true rfl) rfl dX5_isKept_43 ⟨(by show 0 + 0 ≤ 0; omega), (by show 0 + 0 ≤ 0; omega)⟩ (fun r15 M16 n17 hr18 => ?_)
      obtain ⟨rfl, rfl, rfl⟩ := hr18
      refine j_st (st := [.int (if lastE w.toInt sl.toInt (ft j).toInt + la.toInt ≤ (mn (mk 0) (mk 1)).toInt then 1 else 0)]) rfl ?_
      refine j_if_ne X 53 dX5_isKept_46 (by decide) (fun c19 => ?_) (fun c19 => ?_)
      · skip
        refine j_iconst X dX5_isKept_53 (v := 0) (by decide) ?_
        exact j_zret X hlk hr (by omega) (by omega) (by decide) dX5_isKept_54 ⟨congrArg (fun z => some (Value.int z)) (kpA_0 (fun q => c5 ((lI_le hb2 hb1).mpr q)) (zo_ne.mp c19)).symm, rfl, rfl⟩
      · skip
        refine j_iconst X dX5_isKept_49 (v := 1) (by decide) ?_
        refine j_goto X 54 dX5_isKept_50 (by decide) ?_
        exact j_zret X hlk hr (by omega) (by omega) (by decide) dX5_isKept_54 ⟨congrArg (fun z => some (Value.int z)) (kpA_2 (zo_eq.mp c19)).symm, rfl, rfl⟩
set_option maxHeartbeats 800000 in
set_option maxRecDepth 100000 in
theorem c_X5_isKeptB (l : Launch) (D : va_G) {ty : jT} {cA : ClassId} (hI : ty[0]? = some (cA, .int)) (b0 : Nat) {M : jM} {n m : Nat} {w sl la sp rm ln qd lt pr tl tk sm my gr rc : Int32} {ft fk fv kp mk qa : Nat → Int32} (hm : M m = some (rfO m w sl la sp rm ln qd lt pr tl tk sm my gr rc)) (hr0 : RA M m ft fk fv kp mk qa) {j : Nat} (hj : j < 400) (hN : okN w sl) (htj : -1000000000 ≤ (ft j).toInt ∧ (ft j).toInt ≤ 1000000000) : Ct l D ty vwCl nwSQ b0 yX5_isKept wsX5_isKept 1 24 0 0 [.ref m, .int 1, .int (nI j)] M n (j_rd (.int (if kpB la.toInt sp.toInt (mn (mk 0) (mk 1)).toInt (ft j).toInt then 1 else 0)) M n) := by
  have hm : M m = some (.inr (5, [.int w, .int sl, .int la, .int sp, .int rm, .int ln, .ref (m + 1), .ref (m + 2), .ref (m + 3), .ref (m + 4), .ref (m + 5), .ref (m + 6), .int qd, .int lt, .int pr, .int tl, .int tk, .int sm, .int my, .int gr, .int rc])) := hm
  obtain ⟨h1, h2, h3, h4, h5, h6⟩ := id hr0
  have hq1 := i_rng (mn (mk 0) (mk 1))
  have hq2 := i_rng la
  have hq3 := i_rng sp
  have hle := lastE_rng hN.1 hN.2 htj
  have hbk : bigI (mn (mk 0) (mk 1)).toInt := ⟨by omega, by omega⟩
  have hbe : bigI (lastE w.toInt sl.toInt (ft j).toInt + la.toInt) := ⟨by omega, by omega⟩
  have hb1 : bigI ((ft j).toInt + sp.toInt) := ⟨by omega, by omega⟩
  have hb2 : bigI ((mn (mk 0) (mk 1)).toInt - la.toInt) := ⟨by omega, by omega⟩
  refine j_start (cc := cX5_isKept) (maxL := 3) (ret := (some .boolean)) (by decide) rfl [some (.ref m), some (.int 1), some (.int (nI j))] (Nat.le_of_ble_eq_true rfl) rfl ?_
  intro p e s m0 below meth c X hlk hr hnm
  refine j_aload_n X 0 dX5_isKept_0 rfl rfl ?_
  refine j_get X hm rfl iwX5_isKept_X5 6 (by decide) lkX5_isKept_22 rfl dX5_isKept_1 ?_
  refine j_iload_n X 2 dX5_isKept_4 rfl rfl ?_
  refine j_iald X h1 hI (vp_in_nI (show j < 400 by omega) (by decide)) (v := ft j) (congrArg ft (nI_clamp (show j < 2 ^ 31 by omega))) dX5_isKept_5 ?_
  refine j_i2l X dX5_isKept_6 ?_
  refine j_st (st := [.long (lI (ft j).toInt)]) (by rw [l_of (ft j)]) ?_
  refine j_aload_n X 0 dX5_isKept_7 rfl rfl ?_
  refine j_get X hm rfl iwX5_isKept_X5 3 (by decide) lkX5_isKept_70 rfl dX5_isKept_8 ?_
  refine j_i2l X dX5_isKept_11 ?_
  refine j_st (st := [.long (lI sp.toInt), .long (lI (ft j).toInt)]) (by rw [l_of sp]) ?_
  refine j_ladd X dX5_isKept_12 ?_
  refine j_st (st := [.long (lI (((ft j).toInt) + sp.toInt))]) (by rw [lI_add]) ?_
  refine j_aload_n X 0 dX5_isKept_13 rfl rfl ?_
  refine j_callV X nwSQ_ok (As := []) (rest := [.long (lI (((ft j).toInt) + sp.toInt))]) hm rfl rfl (c_X5_mark l D hI b0 hm ⟨h1, h2, h3, h4, h5, h6⟩) rfl gX5_isKept_X5_mark ⟨rfl, ddX5_mark⟩ ⟨Nat.le_of_ble_eq_true rfl, Nat.le_of_ble_eq_true rfl⟩ (Nat.le_of_ble_eq_true rfl) rfl dX5_isKept_14 ⟨(by show 0 + 0 ≤ 0; omega), (by show 0 + 0 ≤ 0; omega)⟩ (fun r20 M21 n22 hr23 => ?_)
  obtain ⟨rfl, rfl, rfl⟩ := hr23
  refine j_st (st := [.int (mn (mk 0) (mk 1)), .long (lI (((ft j).toInt) + sp.toInt))]) rfl ?_
  refine j_i2l X dX5_isKept_17 ?_
  refine j_st (st := [.long (lI (mn (mk 0) (mk 1)).toInt), .long (lI (((ft j).toInt) + sp.toInt))]) (by rw [l_of (mn (mk 0) (mk 1))]) ?_
  refine j_aload_n X 0 dX5_isKept_18 rfl rfl ?_
  refine j_get X hm rfl iwX5_isKept_X5 2 (by decide) lkX5_isKept_67 rfl dX5_isKept_19 ?_
  refine j_i2l X dX5_isKept_22 ?_
  refine j_st (st := [.long (lI la.toInt), .long (lI (mn (mk 0) (mk 1)).toInt), .long (lI (((ft j).toInt) + sp.toInt))]) (by rw [l_of la]) ?_
  refine j_lsub X dX5_isKept_23 ?_
  refine j_st (st := [.long (lI (((mn (mk 0) (mk 1)).toInt) - la.toInt)), .long (lI (((ft j).toInt) + sp.toInt))]) (by rw [lI_sub]) ?_
  refine j_lc_ge X 49 dX5_isKept_24 dX5_isKept_25 (by decide) (fun c24 => ?_) (fun c24 => ?_)
  · skip
    refine j_iconst X dX5_isKept_49 (v := 1) (by decide) ?_
    refine j_goto X 54 dX5_isKept_50 (by decide) ?_
    exact j_zret X hlk hr (by omega) (by omega) (by decide) dX5_isKept_54 ⟨congrArg (fun z => some (Value.int z)) (kpB_1 ((lI_le hb2 hb1).mp c24)).symm, rfl, rfl⟩
  · skip
    refine j_iload_n X 1 dX5_isKept_28 rfl rfl ?_
    refine j_if_ne X 53 dX5_isKept_29 (by decide) (fun c25 => ?_) (fun c25 => ?_)
    · skip
      refine j_iconst X dX5_isKept_53 (v := 0) (by decide) ?_
      exact j_zret X hlk hr (by omega) (by omega) (by decide) dX5_isKept_54 ⟨congrArg (fun z => some (Value.int z)) (kpB_0 (fun q => c24 ((lI_le hb2 hb1).mpr q))).symm, rfl, rfl⟩
    · skip
      exact absurd c25 (by decide)
set_option maxHeartbeats 800000 in
set_option maxRecDepth 100000 in
theorem c_X5_sweepA (l : Launch) (D : va_G) {ty : jT} {cA : ClassId} (hI : ty[0]? = some (cA, .int)) (b0 : Nat) {M : jM} {n m : Nat} {w sl la sp rm ln qd lt pr tl tk sm my gr rc : Int32} {ft fk fv kp mk qa : Nat → Int32} (hm : M m = some (rfO m w sl la sp rm ln qd lt pr tl tk sm my gr rc)) (hr0 : RA M m ft fk fv kp mk qa) {le : List Ev} (hk0 : kp 0 = nI le.length) (hlen : le.length ≤ 200) (hl : ∀ i, i < le.length → le[i]? = some (ft (0 + i), fk (0 + i), fv (0 + i))) (hN : okN w sl) (hT : ∀ e ∈ le, -1000000000 ≤ e.1.toInt ∧ e.1.toInt ≤ 1000000000) : Ct l D ty vwCl nwSQ b0 yX5_sweep wsX5_sweep 2 46 0 0 [.ref m, .int 0] M n (fun r M' n' => r = none ∧ n = n' ∧ ∃ gt gk gv : Nat → Int32, M' m = some (rfO m w sl la sp rm ln qd lt pr tl tk sm my gr rc) ∧ RA M' m gt gk gv (upd kp 0 (nI (le.filter (fun e : Ev => (kpA w.toInt sl.toInt la.toInt sp.toInt (mn (mk 0) (mk 1)).toInt) e.1.toInt)).length)) mk qa ∧ (∀ i, i < (le.filter (fun e : Ev => (kpA w.toInt sl.toInt la.toInt sp.toInt (mn (mk 0) (mk 1)).toInt) e.1.toInt)).length → (le.filter (fun e : Ev => (kpA w.toInt sl.toInt la.toInt sp.toInt (mn (mk 0) (mk 1)).toInt) e.1.toInt))[i]? = some (gt (0 + i), gk (0 + i), gv (0 + i))) ∧ (∀ q, (q < 0 ∨ 0 + 200 ≤ q) → gt q = ft q ∧ gk q = fk q ∧ gv q = fv q) ∧ ∀ q, (q < m ∨ m + 6 < q) → M' q = M q) := by
  have hm : M m = some (.inr (5, [.int w, .int sl, .int la, .int sp, .int rm, .int ln, .ref (m + 1), .ref (m + 2), .ref (m + 3), .ref (m + 4), .ref (m + 5), .ref (m + 6), .int qd, .int lt, .int pr, .int tl, .int tk, .int sm, .int my, .int gr, .int rc])) := hm
  obtain ⟨h1, h2, h3, h4, h5, h6⟩ := id hr0
  refine j_start (cc := cX5_sweep) (maxL := 5) (ret := none) (by decide) rfl [some (.ref m), some (.int 0), none, none, none] (Nat.le_of_ble_eq_true rfl) rfl ?_
  intro p e s m0 below meth c X hlk hr hnm
  have loop : ∀ (z i k : Nat) (Mi : jM) (gt gk gv : Nat → Int32), i + z = le.length → k = ((le.take i).filter (fun e : Ev => (kpA w.toInt sl.toInt la.toInt sp.toInt (mn (mk 0) (mk 1)).toInt) e.1.toInt)).length → Mi m = some (rfO m w sl la sp rm ln qd lt pr tl tk sm my gr rc) → RA Mi m gt gk gv kp mk qa → (∀ j, j < ((le.take i).filter (fun e : Ev => (kpA w.toInt sl.toInt la.toInt sp.toInt (mn (mk 0) (mk 1)).toInt) e.1.toInt)).length → ((le.take i).filter (fun e : Ev => (kpA w.toInt sl.toInt la.toInt sp.toInt (mn (mk 0) (mk 1)).toInt) e.1.toInt))[j]? = some (gt (0 + j), gk (0 + j), gv (0 + j))) → (∀ q, (q < 0 ∨ 0 + i ≤ q) → gt q = ft q ∧ gk q = fk q ∧ gv q = fv q) → (∀ q, (q < m ∨ m + 6 < q) → Mi q = M q) → J p l e { frames := 2, cells := 0, slots := 0, locals := 46 } s m0 ([.ref m, .int 0] : List Value).toArray below meth c D ty vwCl b0 (MQ below (j_Q D ty vwCl b0 (fun r M' n' => r = none ∧ n = n' ∧ ∃ gt gk gv : Nat → Int32, M' m = some (rfO m w sl la sp rm ln qd lt pr tl tk sm my gr rc) ∧ RA M' m gt gk gv (upd kp 0 (nI (le.filter (fun e : Ev => (kpA w.toInt sl.toInt la.toInt sp.toInt (mn (mk 0) (mk 1)).toInt) e.1.toInt)).length)) mk qa ∧ (∀ i, i < (le.filter (fun e : Ev => (kpA w.toInt sl.toInt la.toInt sp.toInt (mn (mk 0) (mk 1)).toInt) e.1.toInt)).length → (le.filter (fun e : Ev => (kpA w.toInt sl.toInt la.toInt sp.toInt (mn (mk 0) (mk 1)).toInt) e.1.toInt))[i]? = some (gt (0 + i), gk (0 + i), gv (0 + i))) ∧ (∀ q, (q < 0 ∨ 0 + 200 ≤ q) → gt q = ft q ∧ gk q = fk q ∧ gv q = fv q) ∧ ∀ q, (q < m ∨ m + 6 < q) → M' q = M q)) ([.ref m, .int 0] : List Value).toArray s 0 0 (fun q => b0 ≤ q)) 5 Mi n 0 0 11 [some (.ref m), some (.int 0), some (.int 0), some (.int (nI k)), some (.int (nI i))] [] := by
    intro z
    induction z with
    | zero =>
      intro i k Mi gt gk gv hz hk hmi hra hpt hre hfr
      have hir : i = le.length := by omega
      subst hir
      rw [List.take_length] at hk hpt
      obtain ⟨h1, h2, h3, h4, h5, h6⟩ := id hra
      have hmi : Mi m = some (.inr (5, [.int w, .int sl, .int la, .int sp, .int rm, .int ln, .ref (m + 1), .ref (m + 2), .ref (m + 3), .ref (m + 4), .ref (m + 5), .ref (m + 6), .int qd, .int lt, .int pr, .int tl, .int tk, .int sm, .int my, .int gr, .int rc])) := hmi
      refine j_iload X dX5_sweep_11 rfl ?_
      refine j_iload_n X 2 dX5_sweep_13 rfl rfl ?_
      refine j_aload_n X 0 dX5_sweep_14 rfl rfl ?_
      refine j_get X hmi rfl iwX5_sweep_X5 9 (by decide) lkX5_sweep_32 rfl dX5_sweep_15 ?_
      refine j_iload_n X 1 dX5_sweep_18 rfl rfl ?_
      refine j_iald X h4 hI (vp_in_nI (n := 0) (by decide) (by decide)) (v := nI le.length) (hk0) dX5_sweep_19 ?_
      refine j_iadd X dX5_sweep_20 ?_
      refine j_st (st := [.int (nI (0 + le.length)), .int (nI le.length)]) (by rw [show 0 + (nI le.length) = nI (0 + le.length) from nI_add 0 _]) ?_
      refine j_icmp_ge X 88 dX5_sweep_21 (by decide) (fun c26 => ?_) (fun c26 => ?_)
      · skip
        refine j_aload_n X 0 dX5_sweep_88 rfl rfl ?_
        refine j_get X hmi rfl iwX5_sweep_X5 9 (by decide) lkX5_sweep_32 rfl dX5_sweep_89 ?_
        refine j_iload_n X 1 dX5_sweep_92 rfl rfl ?_
        refine j_iload_n X 3 dX5_sweep_93 rfl rfl ?_
        refine j_iast X h4 hI (vp_in_nI (n := 0) (by decide) (by decide)) dX5_sweep_94 ?_
        rw [show (0 : Int32).toNatClampNeg = 0 from by decide]
        generalize eM27 : j_up Mi (m + 4) (.inl (0, 2, .inl (upd kp 0 (nI k)))) = M27
        have h28 : M27 m = some (.inr (5, [.int w, .int sl, .int la, .int sp, .int rm, .int ln, .ref (m + 1), .ref (m + 2), .ref (m + 3), .ref (m + 4), .ref (m + 5), .ref (m + 6), .int qd, .int lt, .int pr, .int tl, .int tk, .int sm, .int my, .int gr, .int rc])) := by rw [← eM27, j_up_ne _ _ (by omega)]; exact hmi
        have h29 : M27 (m + 1) = some (.inl (0, 400, .inl gt)) := by rw [← eM27, j_up_ne _ _ (by omega)]; exact h1
        have h30 : M27 (m + 2) = some (.inl (0, 400, .inl gk)) := by rw [← eM27, j_up_ne _ _ (by omega)]; exact h2
        have h31 : M27 (m + 3) = some (.inl (0, 400, .inl gv)) := by rw [← eM27, j_up_ne _ _ (by omega)]; exact h3
        have h33 : M27 (m + 5) = some (.inl (0, 2, .inl mk)) := by rw [← eM27, j_up_ne _ _ (by omega)]; exact h5
        have h34 : M27 (m + 6) = some (.inl (0, 2400, .inl qa)) := by rw [← eM27, j_up_ne _ _ (by omega)]; exact h6
        have h35 : M27 (m + 4) = some (.inl (0, 2, .inl (upd kp 0 (nI k)))) := by rw [← eM27]; exact j_up_self _ _ _
        exact j_vret X hlk hr (by omega) (by omega) dX5_sweep_95 ⟨rfl, rfl, gt, gk, gv, h28, by rw [← hk]; exact ⟨h29, h30, h31, h35, h33, h34⟩, hpt, fun q hq => hre q (by omega), fun q hq => by rw [← eM27, j_up_ne _ _ (by omega)]; exact hfr q hq⟩
      · skip
        exact absurd (nI_le (by omega) (by omega)) c26
    | succ z ih =>
      intro i k Mi gt gk gv hz hk hmi hra hpt hre hfr
      obtain ⟨h1, h2, h3, h4, h5, h6⟩ := id hra
      have hmi : Mi m = some (.inr (5, [.int w, .int sl, .int la, .int sp, .int rm, .int ln, .ref (m + 1), .ref (m + 2), .ref (m + 3), .ref (m + 4), .ref (m + 5), .ref (m + 6), .int qd, .int lt, .int pr, .int tl, .int tk, .int sm, .int my, .int gr, .int rc])) := hmi
      have hi := hl i (show i < le.length by omega)
      have hft := filter_take (p := (fun e : Ev => (kpA w.toInt sl.toInt la.toInt sp.toInt (mn (mk 0) (mk 1)).toInt) e.1.toInt)) hi
      have hkl : ((le.take i).filter (fun e : Ev => (kpA w.toInt sl.toInt la.toInt sp.toInt (mn (mk 0) (mk 1)).toInt) e.1.toInt)).length ≤ i := Nat.le_trans (List.length_filter_le _ _) (by rw [List.length_take]; omega)
      generalize hK : ((le.take i).filter (fun e : Ev => (kpA w.toInt sl.toInt la.toInt sp.toInt (mn (mk 0) (mk 1)).toInt) e.1.toInt)) = lk at hk hpt hft hkl
      subst hk
      obtain ⟨e1, e2, e3⟩ := hre (0 + i) (by omega)
      rw [Nat.zero_add] at e1 e2 e3
      have htj : -1000000000 ≤ (gt (i)).toInt ∧ (gt (i)).toInt ≤ 1000000000 := by rw [e1]; rw [Nat.zero_add] at hi; exact hT _ (List.mem_of_getElem? hi)
      refine j_iload X dX5_sweep_11 rfl ?_
      refine j_iload_n X 2 dX5_sweep_13 rfl rfl ?_
      refine j_aload_n X 0 dX5_sweep_14 rfl rfl ?_
      refine j_get X hmi rfl iwX5_sweep_X5 9 (by decide) lkX5_sweep_32 rfl dX5_sweep_15 ?_
      refine j_iload_n X 1 dX5_sweep_18 rfl rfl ?_
      refine j_iald X h4 hI (vp_in_nI (n := 0) (by decide) (by decide)) (v := nI le.length) (hk0) dX5_sweep_19 ?_
      refine j_iadd X dX5_sweep_20 ?_
      refine j_st (st := [.int (nI (0 + le.length)), .int (nI i)]) (by rw [show 0 + (nI le.length) = nI (0 + le.length) from nI_add 0 _]) ?_
      refine j_icmp_ge X 88 dX5_sweep_21 (by decide) (fun c36 => ?_) (fun c36 => ?_)
      · skip
        exact absurd c36 (nI_ge (by omega) (by omega))
      · skip
        refine j_aload_n X 0 dX5_sweep_24 rfl rfl ?_
        refine j_iload_n X 1 dX5_sweep_25 rfl rfl ?_
        refine j_iload X dX5_sweep_26 rfl ?_
        refine j_callV X nwSQ_ok (As := [.int 0, .int (nI i)]) (rest := []) hmi rfl rfl (c_X5_isKeptA l D hI b0 hmi ⟨h1, h2, h3, h4, h5, h6⟩ (j := i) (by omega) hN htj) rfl gX5_sweep_X5_isKept ⟨rfl, ddX5_isKept⟩ ⟨Nat.le_of_ble_eq_true rfl, Nat.le_of_ble_eq_true rfl⟩ (Nat.le_of_ble_eq_true rfl) rfl dX5_sweep_28 ⟨(by show 0 + 0 ≤ 0; omega), (by show 0 + 0 ≤ 0; omega)⟩ (fun r37 M38 n39 hr40 => ?_)
        obtain ⟨rfl, rfl, rfl⟩ := hr40
        refine j_st (st := [.int (if (kpA w.toInt sl.toInt la.toInt sp.toInt (mn (mk 0) (mk 1)).toInt) (gt (i)).toInt then 1 else 0)]) rfl ?_
        refine j_if_eq X 82 dX5_sweep_31 (by decide) (fun c41 => ?_) (fun c41 => ?_)
        · skip
          refine j_iinc X dX5_sweep_82 rfl (v := nI (i + 1)) (nI_1 _) (by decide) rfl (L' := [some (.ref m), some (.int 0), some (.int 0), some (.int (nI lk.length)), some (.int (nI (i + 1)))]) rfl ?_
          refine j_goto X 11 dX5_sweep_85 (by decide) ?_
          rw [Nat.zero_add] at hft; rw [if_neg (by rw [← e1]; exact zo_eq.mp c41), List.append_nil] at hft
          exact ih (i + 1) lk.length Mi gt gk gv (by omega) (by rw [hft]) hmi hra (by rw [hft]; exact hpt) (fun q hq => hre q (by omega)) hfr
        · skip
          refine j_aload_n X 0 dX5_sweep_34 rfl rfl ?_
          refine j_get X hmi rfl iwX5_sweep_X5 6 (by decide) lkX5_sweep_22 rfl dX5_sweep_35 ?_
          refine j_iload_n X 2 dX5_sweep_38 rfl rfl ?_
          refine j_iload_n X 3 dX5_sweep_39 rfl rfl ?_
          refine j_iadd X dX5_sweep_40 ?_
          refine j_st (st := [.int (nI (0 + lk.length)), .ref (m + 1)]) (by rw [show 0 + (nI lk.length) = nI (0 + lk.length) from nI_add 0 _]) ?_
          refine j_aload_n X 0 dX5_sweep_41 rfl rfl ?_
          refine j_get X hmi rfl iwX5_sweep_X5 6 (by decide) lkX5_sweep_22 rfl dX5_sweep_42 ?_
          refine j_iload X dX5_sweep_45 rfl ?_
          refine j_iald X h1 hI (vp_in_nI (show i < 400 by omega) (by decide)) (v := gt i) (congrArg gt (nI_clamp (show i < 2 ^ 31 by omega))) dX5_sweep_47 ?_
          refine j_iast X h1 hI (vp_in_nI (show 0 + lk.length < 400 by omega) (by decide)) dX5_sweep_48 ?_
          rw [nI_clamp (show 0 + lk.length < 2 ^ 31 by omega)]
          generalize eM42 : j_up Mi (m + 1) (.inl (0, 400, .inl (upd gt (0 + lk.length) (gt i)))) = M42
          have h43 : M42 m = some (.inr (5, [.int w, .int sl, .int la, .int sp, .int rm, .int ln, .ref (m + 1), .ref (m + 2), .ref (m + 3), .ref (m + 4), .ref (m + 5), .ref (m + 6), .int qd, .int lt, .int pr, .int tl, .int tk, .int sm, .int my, .int gr, .int rc])) := by rw [← eM42, j_up_ne _ _ (by omega)]; exact hmi
          have h45 : M42 (m + 2) = some (.inl (0, 400, .inl gk)) := by rw [← eM42, j_up_ne _ _ (by omega)]; exact h2
          have h46 : M42 (m + 3) = some (.inl (0, 400, .inl gv)) := by rw [← eM42, j_up_ne _ _ (by omega)]; exact h3
          have h47 : M42 (m + 4) = some (.inl (0, 2, .inl kp)) := by rw [← eM42, j_up_ne _ _ (by omega)]; exact h4
          have h48 : M42 (m + 5) = some (.inl (0, 2, .inl mk)) := by rw [← eM42, j_up_ne _ _ (by omega)]; exact h5
          have h49 : M42 (m + 6) = some (.inl (0, 2400, .inl qa)) := by rw [← eM42, j_up_ne _ _ (by omega)]; exact h6
          have h50 : M42 (m + 1) = some (.inl (0, 400, .inl (upd gt (0 + lk.length) (gt i)))) := by rw [← eM42]; exact j_up_self _ _ _
          refine j_aload_n X 0 dX5_sweep_49 rfl rfl ?_
          refine j_get X h43 rfl iwX5_sweep_X5 7 (by decide) lkX5_sweep_26 rfl dX5_sweep_50 ?_
          refine j_iload_n X 2 dX5_sweep_53 rfl rfl ?_
          refine j_iload_n X 3 dX5_sweep_54 rfl rfl ?_
          refine j_iadd X dX5_sweep_55 ?_
          refine j_st (st := [.int (nI (0 + lk.length)), .ref (m + 2)]) (by rw [show 0 + (nI lk.length) = nI (0 + lk.length) from nI_add 0 _]) ?_
          refine j_aload_n X 0 dX5_sweep_56 rfl rfl ?_
          refine j_get X h43 rfl iwX5_sweep_X5 7 (by decide) lkX5_sweep_26 rfl dX5_sweep_57 ?_
          refine j_iload X dX5_sweep_60 rfl ?_
          refine j_iald X h45 hI (vp_in_nI (show i < 400 by omega) (by decide)) (v := gk i) (congrArg gk (nI_clamp (show i < 2 ^ 31 by omega))) dX5_sweep_62 ?_
          refine j_iast X h45 hI (vp_in_nI (show 0 + lk.length < 400 by omega) (by decide)) dX5_sweep_63 ?_
          rw [nI_clamp (show 0 + lk.length < 2 ^ 31 by omega)]
          generalize eM51 : j_up M42 (m + 2) (.inl (0, 400, .inl (upd gk (0 + lk.length) (gk i)))) = M51
          have h52 : M51 m = some (.inr (5, [.int w, .int sl, .int la, .int sp, .int rm, .int ln, .ref (m + 1), .ref (m + 2), .ref (m + 3), .ref (m + 4), .ref (m + 5), .ref (m + 6), .int qd, .int lt, .int pr, .int tl, .int tk, .int sm, .int my, .int gr, .int rc])) := by rw [← eM51, j_up_ne _ _ (by omega)]; exact h43
          have h54 : M51 (m + 3) = some (.inl (0, 400, .inl gv)) := by rw [← eM51, j_up_ne _ _ (by omega)]; exact h46
          have h55 : M51 (m + 4) = some (.inl (0, 2, .inl kp)) := by rw [← eM51, j_up_ne _ _ (by omega)]; exact h47
          have h56 : M51 (m + 5) = some (.inl (0, 2, .inl mk)) := by rw [← eM51, j_up_ne _ _ (by omega)]; exact h48
          have h57 : M51 (m + 6) = some (.inl (0, 2400, .inl qa)) := by rw [← eM51, j_up_ne _ _ (by omega)]; exact h49
          have h58 : M51 (m + 1) = some (.inl (0, 400, .inl (upd gt (0 + lk.length) (gt i)))) := by rw [← eM51, j_up_ne _ _ (by omega)]; exact h50
          have h59 : M51 (m + 2) = some (.inl (0, 400, .inl (upd gk (0 + lk.length) (gk i)))) := by rw [← eM51]; exact j_up_self _ _ _
          refine j_aload_n X 0 dX5_sweep_64 rfl rfl ?_
          refine j_get X h52 rfl iwX5_sweep_X5 8 (by decide) lkX5_sweep_29 rfl dX5_sweep_65 ?_
          refine j_iload_n X 2 dX5_sweep_68 rfl rfl ?_
          refine j_iload_n X 3 dX5_sweep_69 rfl rfl ?_
          refine j_iadd X dX5_sweep_70 ?_
          refine j_st (st := [.int (nI (0 + lk.length)), .ref (m + 3)]) (by rw [show 0 + (nI lk.length) = nI (0 + lk.length) from nI_add 0 _]) ?_
          refine j_aload_n X 0 dX5_sweep_71 rfl rfl ?_
          refine j_get X h52 rfl iwX5_sweep_X5 8 (by decide) lkX5_sweep_29 rfl dX5_sweep_72 ?_
          refine j_iload X dX5_sweep_75 rfl ?_
          refine j_iald X h54 hI (vp_in_nI (show i < 400 by omega) (by decide)) (v := gv i) (congrArg gv (nI_clamp (show i < 2 ^ 31 by omega))) dX5_sweep_77 ?_
          refine j_iast X h54 hI (vp_in_nI (show 0 + lk.length < 400 by omega) (by decide)) dX5_sweep_78 ?_
          rw [nI_clamp (show 0 + lk.length < 2 ^ 31 by omega)]
          generalize eM60 : j_up M51 (m + 3) (.inl (0, 400, .inl (upd gv (0 + lk.length) (gv i)))) = M60
          have h61 : M60 m = some (.inr (5, [.int w, .int sl, .int la, .int sp, .int rm, .int ln, .ref (m + 1), .ref (m + 2), .ref (m + 3), .ref (m + 4), .ref (m + 5), .ref (m + 6), .int qd, .int lt, .int pr, .int tl, .int tk, .int sm, .int my, .int gr, .int rc])) := by rw [← eM60, j_up_ne _ _ (by omega)]; exact h52
          have h63 : M60 (m + 4) = some (.inl (0, 2, .inl kp)) := by rw [← eM60, j_up_ne _ _ (by omega)]; exact h55
          have h64 : M60 (m + 5) = some (.inl (0, 2, .inl mk)) := by rw [← eM60, j_up_ne _ _ (by omega)]; exact h56
          have h65 : M60 (m + 6) = some (.inl (0, 2400, .inl qa)) := by rw [← eM60, j_up_ne _ _ (by omega)]; exact h57
          have h66 : M60 (m + 1) = some (.inl (0, 400, .inl (upd gt (0 + lk.length) (gt i)))) := by rw [← eM60, j_up_ne _ _ (by omega)]; exact h58
          have h67 : M60 (m + 2) = some (.inl (0, 400, .inl (upd gk (0 + lk.length) (gk i)))) := by rw [← eM60, j_up_ne _ _ (by omega)]; exact h59
          have h68 : M60 (m + 3) = some (.inl (0, 400, .inl (upd gv (0 + lk.length) (gv i)))) := by rw [← eM60]; exact j_up_self _ _ _
          refine j_iinc X dX5_sweep_79 rfl (v := nI (lk.length + 1)) (nI_1 _) (by decide) rfl (L' := [some (.ref m), some (.int 0), some (.int 0), some (.int (nI (lk.length + 1))), some (.int (nI i))]) rfl ?_
          refine j_iinc X dX5_sweep_82 rfl (v := nI (i + 1)) (nI_1 _) (by decide) rfl (L' := [some (.ref m), some (.int 0), some (.int 0), some (.int (nI (lk.length + 1))), some (.int (nI (i + 1)))]) rfl ?_
          refine j_goto X 11 dX5_sweep_85 (by decide) ?_
          rw [Nat.zero_add] at hft; rw [if_pos (by rw [← e1]; exact zo_ne.mp c41)] at hft
          refine ih (i + 1) (lk.length + 1) M60 (upd gt (0 + lk.length) (gt (i))) (upd gk (0 + lk.length) (gk (i))) (upd gv (0 + lk.length) (gv (i))) (by omega) (by rw [hft, List.length_append]; rfl) h61 ⟨h66, h67, h68, h63, h64, h65⟩ ?_ ?_ (fun q hq => by rw [← eM60, j_up_ne _ _ (by omega), ← eM51, j_up_ne _ _ (by omega), ← eM42, j_up_ne _ _ (by omega)]; exact hfr q hq)
          · rw [hft, e1, e2, e3]; have hpp := ev_push2 (bs := 0) (a := ft (i)) (b := fk (i)) (v := fv (i)) hpt; exact hpp
          · intro q hq
            obtain ⟨g1, g2, g3⟩ := hre q (by omega)
            have hne : q ≠ 0 + lk.length := by omega
            simp only [upd, if_neg hne]
            exact ⟨g1, g2, g3⟩
  refine j_sipush X dX5_sweep_0 (v := 200) (by decide) ?_
  refine j_iload_n X 1 dX5_sweep_3 rfl rfl ?_
  refine j_imul X dX5_sweep_4 ?_
  refine j_st (st := [.int 0]) rfl ?_
  refine j_istore_n X 2 dX5_sweep_5 rfl (by decide) rfl (L' := [some (.ref m), some (.int 0), some (.int 0), none, none]) rfl ?_
  refine j_iconst X dX5_sweep_6 (v := 0) (by decide) ?_
  refine j_istore_n X 3 dX5_sweep_7 rfl (by decide) rfl (L' := [some (.ref m), some (.int 0), some (.int 0), some (.int 0), none]) rfl ?_
  refine j_iload_n X 2 dX5_sweep_8 rfl rfl ?_
  refine j_istore X dX5_sweep_9 (by decide) rfl (L' := [some (.ref m), some (.int 0), some (.int 0), some (.int 0), some (.int 0)]) rfl ?_
  exact loop le.length 0 0 M ft fk fv (by omega) rfl hm hr0 (fun j hj => absurd hj (Nat.not_lt_zero j)) (fun q _ => ⟨rfl, rfl, rfl⟩) (fun _ _ => rfl)
set_option maxHeartbeats 800000 in
set_option maxRecDepth 100000 in
theorem c_X5_sweepB (l : Launch) (D : va_G) {ty : jT} {cA : ClassId} (hI : ty[0]? = some (cA, .int)) (b0 : Nat) {M : jM} {n m : Nat} {w sl la sp rm ln qd lt pr tl tk sm my gr rc : Int32} {ft fk fv kp mk qa : Nat → Int32} (hm : M m = some (rfO m w sl la sp rm ln qd lt pr tl tk sm my gr rc)) (hr0 : RA M m ft fk fv kp mk qa) {le : List Ev} (hk0 : kp 1 = nI le.length) (hlen : le.length ≤ 200) (hl : ∀ i, i < le.length → le[i]? = some (ft (200 + i), fk (200 + i), fv (200 + i))) (hN : okN w sl) (hT : ∀ e ∈ le, -1000000000 ≤ e.1.toInt ∧ e.1.toInt ≤ 1000000000) : Ct l D ty vwCl nwSQ b0 yX5_sweep wsX5_sweep 2 46 0 0 [.ref m, .int 1] M n (fun r M' n' => r = none ∧ n = n' ∧ ∃ gt gk gv : Nat → Int32, M' m = some (rfO m w sl la sp rm ln qd lt pr tl tk sm my gr rc) ∧ RA M' m gt gk gv (upd kp 1 (nI (le.filter (fun e : Ev => (kpB la.toInt sp.toInt (mn (mk 0) (mk 1)).toInt) e.1.toInt)).length)) mk qa ∧ (∀ i, i < (le.filter (fun e : Ev => (kpB la.toInt sp.toInt (mn (mk 0) (mk 1)).toInt) e.1.toInt)).length → (le.filter (fun e : Ev => (kpB la.toInt sp.toInt (mn (mk 0) (mk 1)).toInt) e.1.toInt))[i]? = some (gt (200 + i), gk (200 + i), gv (200 + i))) ∧ (∀ q, (q < 200 ∨ 200 + 200 ≤ q) → gt q = ft q ∧ gk q = fk q ∧ gv q = fv q) ∧ ∀ q, (q < m ∨ m + 6 < q) → M' q = M q) := by
  have hm : M m = some (.inr (5, [.int w, .int sl, .int la, .int sp, .int rm, .int ln, .ref (m + 1), .ref (m + 2), .ref (m + 3), .ref (m + 4), .ref (m + 5), .ref (m + 6), .int qd, .int lt, .int pr, .int tl, .int tk, .int sm, .int my, .int gr, .int rc])) := hm
  obtain ⟨h1, h2, h3, h4, h5, h6⟩ := id hr0
  refine j_start (cc := cX5_sweep) (maxL := 5) (ret := none) (by decide) rfl [some (.ref m), some (.int 1), none, none, none] (Nat.le_of_ble_eq_true rfl) rfl ?_
  intro p e s m0 below meth c X hlk hr hnm
  have loop : ∀ (z i k : Nat) (Mi : jM) (gt gk gv : Nat → Int32), i + z = le.length → k = ((le.take i).filter (fun e : Ev => (kpB la.toInt sp.toInt (mn (mk 0) (mk 1)).toInt) e.1.toInt)).length → Mi m = some (rfO m w sl la sp rm ln qd lt pr tl tk sm my gr rc) → RA Mi m gt gk gv kp mk qa → (∀ j, j < ((le.take i).filter (fun e : Ev => (kpB la.toInt sp.toInt (mn (mk 0) (mk 1)).toInt) e.1.toInt)).length → ((le.take i).filter (fun e : Ev => (kpB la.toInt sp.toInt (mn (mk 0) (mk 1)).toInt) e.1.toInt))[j]? = some (gt (200 + j), gk (200 + j), gv (200 + j))) → (∀ q, (q < 200 ∨ 200 + i ≤ q) → gt q = ft q ∧ gk q = fk q ∧ gv q = fv q) → (∀ q, (q < m ∨ m + 6 < q) → Mi q = M q) → J p l e { frames := 2, cells := 0, slots := 0, locals := 46 } s m0 ([.ref m, .int 1] : List Value).toArray below meth c D ty vwCl b0 (MQ below (j_Q D ty vwCl b0 (fun r M' n' => r = none ∧ n = n' ∧ ∃ gt gk gv : Nat → Int32, M' m = some (rfO m w sl la sp rm ln qd lt pr tl tk sm my gr rc) ∧ RA M' m gt gk gv (upd kp 1 (nI (le.filter (fun e : Ev => (kpB la.toInt sp.toInt (mn (mk 0) (mk 1)).toInt) e.1.toInt)).length)) mk qa ∧ (∀ i, i < (le.filter (fun e : Ev => (kpB la.toInt sp.toInt (mn (mk 0) (mk 1)).toInt) e.1.toInt)).length → (le.filter (fun e : Ev => (kpB la.toInt sp.toInt (mn (mk 0) (mk 1)).toInt) e.1.toInt))[i]? = some (gt (200 + i), gk (200 + i), gv (200 + i))) ∧ (∀ q, (q < 200 ∨ 200 + 200 ≤ q) → gt q = ft q ∧ gk q = fk q ∧ gv q = fv q) ∧ ∀ q, (q < m ∨ m + 6 < q) → M' q = M q)) ([.ref m, .int 1] : List Value).toArray s 0 0 (fun q => b0 ≤ q)) 5 Mi n 0 0 11 [some (.ref m), some (.int 1), some (.int 200), some (.int (nI k)), some (.int (nI (200 + i)))] [] := by
    intro z
    induction z with
    | zero =>
      intro i k Mi gt gk gv hz hk hmi hra hpt hre hfr
      have hir : i = le.length := by omega
      subst hir
      rw [List.take_length] at hk hpt
      obtain ⟨h1, h2, h3, h4, h5, h6⟩ := id hra
      have hmi : Mi m = some (.inr (5, [.int w, .int sl, .int la, .int sp, .int rm, .int ln, .ref (m + 1), .ref (m + 2), .ref (m + 3), .ref (m + 4), .ref (m + 5), .ref (m + 6), .int qd, .int lt, .int pr, .int tl, .int tk, .int sm, .int my, .int gr, .int rc])) := hmi
      refine j_iload X dX5_sweep_11 rfl ?_
      refine j_iload_n X 2 dX5_sweep_13 rfl rfl ?_
      refine j_aload_n X 0 dX5_sweep_14 rfl rfl ?_
      refine j_get X hmi rfl iwX5_sweep_X5 9 (by decide) lkX5_sweep_32 rfl dX5_sweep_15 ?_
      refine j_iload_n X 1 dX5_sweep_18 rfl rfl ?_
      refine j_iald X h4 hI (vp_in_nI (n := 1) (by decide) (by decide)) (v := nI le.length) (hk0) dX5_sweep_19 ?_
      refine j_iadd X dX5_sweep_20 ?_
      refine j_st (st := [.int (nI (200 + le.length)), .int (nI (200 + le.length))]) (by rw [show 200 + (nI le.length) = nI (200 + le.length) from nI_add 200 _]) ?_
      refine j_icmp_ge X 88 dX5_sweep_21 (by decide) (fun c69 => ?_) (fun c69 => ?_)
      · skip
        refine j_aload_n X 0 dX5_sweep_88 rfl rfl ?_
        refine j_get X hmi rfl iwX5_sweep_X5 9 (by decide) lkX5_sweep_32 rfl dX5_sweep_89 ?_
        refine j_iload_n X 1 dX5_sweep_92 rfl rfl ?_
        refine j_iload_n X 3 dX5_sweep_93 rfl rfl ?_
        refine j_iast X h4 hI (vp_in_nI (n := 1) (by decide) (by decide)) dX5_sweep_94 ?_
        rw [show (1 : Int32).toNatClampNeg = 1 from by decide]
        generalize eM70 : j_up Mi (m + 4) (.inl (0, 2, .inl (upd kp 1 (nI k)))) = M70
        have h71 : M70 m = some (.inr (5, [.int w, .int sl, .int la, .int sp, .int rm, .int ln, .ref (m + 1), .ref (m + 2), .ref (m + 3), .ref (m + 4), .ref (m + 5), .ref (m + 6), .int qd, .int lt, .int pr, .int tl, .int tk, .int sm, .int my, .int gr, .int rc])) := by rw [← eM70, j_up_ne _ _ (by omega)]; exact hmi
        have h72 : M70 (m + 1) = some (.inl (0, 400, .inl gt)) := by rw [← eM70, j_up_ne _ _ (by omega)]; exact h1
        have h73 : M70 (m + 2) = some (.inl (0, 400, .inl gk)) := by rw [← eM70, j_up_ne _ _ (by omega)]; exact h2
        have h74 : M70 (m + 3) = some (.inl (0, 400, .inl gv)) := by rw [← eM70, j_up_ne _ _ (by omega)]; exact h3
        have h76 : M70 (m + 5) = some (.inl (0, 2, .inl mk)) := by rw [← eM70, j_up_ne _ _ (by omega)]; exact h5
        have h77 : M70 (m + 6) = some (.inl (0, 2400, .inl qa)) := by rw [← eM70, j_up_ne _ _ (by omega)]; exact h6
        have h78 : M70 (m + 4) = some (.inl (0, 2, .inl (upd kp 1 (nI k)))) := by rw [← eM70]; exact j_up_self _ _ _
        exact j_vret X hlk hr (by omega) (by omega) dX5_sweep_95 ⟨rfl, rfl, gt, gk, gv, h71, by rw [← hk]; exact ⟨h72, h73, h74, h78, h76, h77⟩, hpt, fun q hq => hre q (by omega), fun q hq => by rw [← eM70, j_up_ne _ _ (by omega)]; exact hfr q hq⟩
      · skip
        exact absurd (nI_le (by omega) (by omega)) c69
    | succ z ih =>
      intro i k Mi gt gk gv hz hk hmi hra hpt hre hfr
      obtain ⟨h1, h2, h3, h4, h5, h6⟩ := id hra
      have hmi : Mi m = some (.inr (5, [.int w, .int sl, .int la, .int sp, .int rm, .int ln, .ref (m + 1), .ref (m + 2), .ref (m + 3), .ref (m + 4), .ref (m + 5), .ref (m + 6), .int qd, .int lt, .int pr, .int tl, .int tk, .int sm, .int my, .int gr, .int rc])) := hmi
      have hi := hl i (show i < le.length by omega)
      have hft := filter_take (p := (fun e : Ev => (kpB la.toInt sp.toInt (mn (mk 0) (mk 1)).toInt) e.1.toInt)) hi
      have hkl : ((le.take i).filter (fun e : Ev => (kpB la.toInt sp.toInt (mn (mk 0) (mk 1)).toInt) e.1.toInt)).length ≤ i := Nat.le_trans (List.length_filter_le _ _) (by rw [List.length_take]; omega)
      generalize hK : ((le.take i).filter (fun e : Ev => (kpB la.toInt sp.toInt (mn (mk 0) (mk 1)).toInt) e.1.toInt)) = lk at hk hpt hft hkl
      subst hk
      obtain ⟨e1, e2, e3⟩ := hre (200 + i) (by omega)
      skip
      have htj : -1000000000 ≤ (gt (200 + i)).toInt ∧ (gt (200 + i)).toInt ≤ 1000000000 := by rw [e1]; exact hT _ (List.mem_of_getElem? hi)
      refine j_iload X dX5_sweep_11 rfl ?_
      refine j_iload_n X 2 dX5_sweep_13 rfl rfl ?_
      refine j_aload_n X 0 dX5_sweep_14 rfl rfl ?_
      refine j_get X hmi rfl iwX5_sweep_X5 9 (by decide) lkX5_sweep_32 rfl dX5_sweep_15 ?_
      refine j_iload_n X 1 dX5_sweep_18 rfl rfl ?_
      refine j_iald X h4 hI (vp_in_nI (n := 1) (by decide) (by decide)) (v := nI le.length) (hk0) dX5_sweep_19 ?_
      refine j_iadd X dX5_sweep_20 ?_
      refine j_st (st := [.int (nI (200 + le.length)), .int (nI (200 + i))]) (by rw [show 200 + (nI le.length) = nI (200 + le.length) from nI_add 200 _]) ?_
      refine j_icmp_ge X 88 dX5_sweep_21 (by decide) (fun c79 => ?_) (fun c79 => ?_)
      · skip
        exact absurd c79 (nI_ge (by omega) (by omega))
      · skip
        refine j_aload_n X 0 dX5_sweep_24 rfl rfl ?_
        refine j_iload_n X 1 dX5_sweep_25 rfl rfl ?_
        refine j_iload X dX5_sweep_26 rfl ?_
        refine j_callV X nwSQ_ok (As := [.int 1, .int (nI (200 + i))]) (rest := []) hmi rfl rfl (c_X5_isKeptB l D hI b0 hmi ⟨h1, h2, h3, h4, h5, h6⟩ (j := 200 + i) (by omega) hN htj) rfl gX5_sweep_X5_isKept ⟨rfl, ddX5_isKept⟩ ⟨Nat.le_of_ble_eq_true rfl, Nat.le_of_ble_eq_true rfl⟩ (Nat.le_of_ble_eq_true rfl) rfl dX5_sweep_28 ⟨(by show 0 + 0 ≤ 0; omega), (by show 0 + 0 ≤ 0; omega)⟩ (fun r80 M81 n82 hr83 => ?_)
        obtain ⟨rfl, rfl, rfl⟩ := hr83
        refine j_st (st := [.int (if (kpB la.toInt sp.toInt (mn (mk 0) (mk 1)).toInt) (gt (200 + i)).toInt then 1 else 0)]) rfl ?_
        refine j_if_eq X 82 dX5_sweep_31 (by decide) (fun c84 => ?_) (fun c84 => ?_)
        · skip
          refine j_iinc X dX5_sweep_82 rfl (v := nI (200 + i + 1)) (nI_1 _) (by decide) rfl (L' := [some (.ref m), some (.int 1), some (.int 200), some (.int (nI lk.length)), some (.int (nI (200 + i + 1)))]) rfl ?_
          refine j_goto X 11 dX5_sweep_85 (by decide) ?_
          rw [if_neg (by rw [← e1]; exact zo_eq.mp c84), List.append_nil] at hft
          exact ih (i + 1) lk.length Mi gt gk gv (by omega) (by rw [hft]) hmi hra (by rw [hft]; exact hpt) (fun q hq => hre q (by omega)) hfr
        · skip
          refine j_aload_n X 0 dX5_sweep_34 rfl rfl ?_
          refine j_get X hmi rfl iwX5_sweep_X5 6 (by decide) lkX5_sweep_22 rfl dX5_sweep_35 ?_
          refine j_iload_n X 2 dX5_sweep_38 rfl rfl ?_
          refine j_iload_n X 3 dX5_sweep_39 rfl rfl ?_
          refine j_iadd X dX5_sweep_40 ?_
          refine j_st (st := [.int (nI (200 + lk.length)), .ref (m + 1)]) (by rw [show 200 + (nI lk.length) = nI (200 + lk.length) from nI_add 200 _]) ?_
          refine j_aload_n X 0 dX5_sweep_41 rfl rfl ?_
          refine j_get X hmi rfl iwX5_sweep_X5 6 (by decide) lkX5_sweep_22 rfl dX5_sweep_42 ?_
          refine j_iload X dX5_sweep_45 rfl ?_
          refine j_iald X h1 hI (vp_in_nI (show 200 + i < 400 by omega) (by decide)) (v := gt (200 + i)) (congrArg gt (nI_clamp (show 200 + i < 2 ^ 31 by omega))) dX5_sweep_47 ?_
          refine j_iast X h1 hI (vp_in_nI (show 200 + lk.length < 400 by omega) (by decide)) dX5_sweep_48 ?_
          rw [nI_clamp (show 200 + lk.length < 2 ^ 31 by omega)]
          generalize eM85 : j_up Mi (m + 1) (.inl (0, 400, .inl (upd gt (200 + lk.length) (gt (200 + i))))) = M85
          have h86 : M85 m = some (.inr (5, [.int w, .int sl, .int la, .int sp, .int rm, .int ln, .ref (m + 1), .ref (m + 2), .ref (m + 3), .ref (m + 4), .ref (m + 5), .ref (m + 6), .int qd, .int lt, .int pr, .int tl, .int tk, .int sm, .int my, .int gr, .int rc])) := by rw [← eM85, j_up_ne _ _ (by omega)]; exact hmi
          have h88 : M85 (m + 2) = some (.inl (0, 400, .inl gk)) := by rw [← eM85, j_up_ne _ _ (by omega)]; exact h2
          have h89 : M85 (m + 3) = some (.inl (0, 400, .inl gv)) := by rw [← eM85, j_up_ne _ _ (by omega)]; exact h3
          have h90 : M85 (m + 4) = some (.inl (0, 2, .inl kp)) := by rw [← eM85, j_up_ne _ _ (by omega)]; exact h4
          have h91 : M85 (m + 5) = some (.inl (0, 2, .inl mk)) := by rw [← eM85, j_up_ne _ _ (by omega)]; exact h5
          have h92 : M85 (m + 6) = some (.inl (0, 2400, .inl qa)) := by rw [← eM85, j_up_ne _ _ (by omega)]; exact h6
          have h93 : M85 (m + 1) = some (.inl (0, 400, .inl (upd gt (200 + lk.length) (gt (200 + i))))) := by rw [← eM85]; exact j_up_self _ _ _
          refine j_aload_n X 0 dX5_sweep_49 rfl rfl ?_
          refine j_get X h86 rfl iwX5_sweep_X5 7 (by decide) lkX5_sweep_26 rfl dX5_sweep_50 ?_
          refine j_iload_n X 2 dX5_sweep_53 rfl rfl ?_
          refine j_iload_n X 3 dX5_sweep_54 rfl rfl ?_
          refine j_iadd X dX5_sweep_55 ?_
          refine j_st (st := [.int (nI (200 + lk.length)), .ref (m + 2)]) (by rw [show 200 + (nI lk.length) = nI (200 + lk.length) from nI_add 200 _]) ?_
          refine j_aload_n X 0 dX5_sweep_56 rfl rfl ?_
          refine j_get X h86 rfl iwX5_sweep_X5 7 (by decide) lkX5_sweep_26 rfl dX5_sweep_57 ?_
          refine j_iload X dX5_sweep_60 rfl ?_
          refine j_iald X h88 hI (vp_in_nI (show 200 + i < 400 by omega) (by decide)) (v := gk (200 + i)) (congrArg gk (nI_clamp (show 200 + i < 2 ^ 31 by omega))) dX5_sweep_62 ?_
          refine j_iast X h88 hI (vp_in_nI (show 200 + lk.length < 400 by omega) (by decide)) dX5_sweep_63 ?_
          rw [nI_clamp (show 200 + lk.length < 2 ^ 31 by omega)]
          generalize eM94 : j_up M85 (m + 2) (.inl (0, 400, .inl (upd gk (200 + lk.length) (gk (200 + i))))) = M94
          have h95 : M94 m = some (.inr (5, [.int w, .int sl, .int la, .int sp, .int rm, .int ln, .ref (m + 1), .ref (m + 2), .ref (m + 3), .ref (m + 4), .ref (m + 5), .ref (m + 6), .int qd, .int lt, .int pr, .int tl, .int tk, .int sm, .int my, .int gr, .int rc])) := by rw [← eM94, j_up_ne _ _ (by omega)]; exact h86
          have h97 : M94 (m + 3) = some (.inl (0, 400, .inl gv)) := by rw [← eM94, j_up_ne _ _ (by omega)]; exact h89
          have h98 : M94 (m + 4) = some (.inl (0, 2, .inl kp)) := by rw [← eM94, j_up_ne _ _ (by omega)]; exact h90
          have h99 : M94 (m + 5) = some (.inl (0, 2, .inl mk)) := by rw [← eM94, j_up_ne _ _ (by omega)]; exact h91
          have h100 : M94 (m + 6) = some (.inl (0, 2400, .inl qa)) := by rw [← eM94, j_up_ne _ _ (by omega)]; exact h92
          have h101 : M94 (m + 1) = some (.inl (0, 400, .inl (upd gt (200 + lk.length) (gt (200 + i))))) := by rw [← eM94, j_up_ne _ _ (by omega)]; exact h93
          have h102 : M94 (m + 2) = some (.inl (0, 400, .inl (upd gk (200 + lk.length) (gk (200 + i))))) := by rw [← eM94]; exact j_up_self _ _ _
          refine j_aload_n X 0 dX5_sweep_64 rfl rfl ?_
          refine j_get X h95 rfl iwX5_sweep_X5 8 (by decide) lkX5_sweep_29 rfl dX5_sweep_65 ?_
          refine j_iload_n X 2 dX5_sweep_68 rfl rfl ?_
          refine j_iload_n X 3 dX5_sweep_69 rfl rfl ?_
          refine j_iadd X dX5_sweep_70 ?_
          refine j_st (st := [.int (nI (200 + lk.length)), .ref (m + 3)]) (by rw [show 200 + (nI lk.length) = nI (200 + lk.length) from nI_add 200 _]) ?_
          refine j_aload_n X 0 dX5_sweep_71 rfl rfl ?_
          refine j_get X h95 rfl iwX5_sweep_X5 8 (by decide) lkX5_sweep_29 rfl dX5_sweep_72 ?_
          refine j_iload X dX5_sweep_75 rfl ?_
          refine j_iald X h97 hI (vp_in_nI (show 200 + i < 400 by omega) (by decide)) (v := gv (200 + i)) (congrArg gv (nI_clamp (show 200 + i < 2 ^ 31 by omega))) dX5_sweep_77 ?_
          refine j_iast X h97 hI (vp_in_nI (show 200 + lk.length < 400 by omega) (by decide)) dX5_sweep_78 ?_
          rw [nI_clamp (show 200 + lk.length < 2 ^ 31 by omega)]
          generalize eM103 : j_up M94 (m + 3) (.inl (0, 400, .inl (upd gv (200 + lk.length) (gv (200 + i))))) = M103
          have h104 : M103 m = some (.inr (5, [.int w, .int sl, .int la, .int sp, .int rm, .int ln, .ref (m + 1), .ref (m + 2), .ref (m + 3), .ref (m + 4), .ref (m + 5), .ref (m + 6), .int qd, .int lt, .int pr, .int tl, .int tk, .int sm, .int my, .int gr, .int rc])) := by rw [← eM103, j_up_ne _ _ (by omega)]; exact h95
          have h106 : M103 (m + 4) = some (.inl (0, 2, .inl kp)) := by rw [← eM103, j_up_ne _ _ (by omega)]; exact h98
          have h107 : M103 (m + 5) = some (.inl (0, 2, .inl mk)) := by rw [← eM103, j_up_ne _ _ (by omega)]; exact h99
          have h108 : M103 (m + 6) = some (.inl (0, 2400, .inl qa)) := by rw [← eM103, j_up_ne _ _ (by omega)]; exact h100
          have h109 : M103 (m + 1) = some (.inl (0, 400, .inl (upd gt (200 + lk.length) (gt (200 + i))))) := by rw [← eM103, j_up_ne _ _ (by omega)]; exact h101
          have h110 : M103 (m + 2) = some (.inl (0, 400, .inl (upd gk (200 + lk.length) (gk (200 + i))))) := by rw [← eM103, j_up_ne _ _ (by omega)]; exact h102
          have h111 : M103 (m + 3) = some (.inl (0, 400, .inl (upd gv (200 + lk.length) (gv (200 + i))))) := by rw [← eM103]; exact j_up_self _ _ _
          refine j_iinc X dX5_sweep_79 rfl (v := nI (lk.length + 1)) (nI_1 _) (by decide) rfl (L' := [some (.ref m), some (.int 1), some (.int 200), some (.int (nI (lk.length + 1))), some (.int (nI (200 + i)))]) rfl ?_
          refine j_iinc X dX5_sweep_82 rfl (v := nI (200 + i + 1)) (nI_1 _) (by decide) rfl (L' := [some (.ref m), some (.int 1), some (.int 200), some (.int (nI (lk.length + 1))), some (.int (nI (200 + i + 1)))]) rfl ?_
          refine j_goto X 11 dX5_sweep_85 (by decide) ?_
          rw [if_pos (by rw [← e1]; exact zo_ne.mp c84)] at hft
          refine ih (i + 1) (lk.length + 1) M103 (upd gt (200 + lk.length) (gt (200 + i))) (upd gk (200 + lk.length) (gk (200 + i))) (upd gv (200 + lk.length) (gv (200 + i))) (by omega) (by rw [hft, List.length_append]; rfl) h104 ⟨h109, h110, h111, h106, h107, h108⟩ ?_ ?_ (fun q hq => by rw [← eM103, j_up_ne _ _ (by omega), ← eM94, j_up_ne _ _ (by omega), ← eM85, j_up_ne _ _ (by omega)]; exact hfr q hq)
          · rw [hft, e1, e2, e3]; have hpp := ev_push2 (bs := 200) (a := ft (200 + i)) (b := fk (200 + i)) (v := fv (200 + i)) hpt; exact hpp
          · intro q hq
            obtain ⟨g1, g2, g3⟩ := hre q (by omega)
            have hne : q ≠ 200 + lk.length := by omega
            simp only [upd, if_neg hne]
            exact ⟨g1, g2, g3⟩
  refine j_sipush X dX5_sweep_0 (v := 200) (by decide) ?_
  refine j_iload_n X 1 dX5_sweep_3 rfl rfl ?_
  refine j_imul X dX5_sweep_4 ?_
  refine j_st (st := [.int 200]) rfl ?_
  refine j_istore_n X 2 dX5_sweep_5 rfl (by decide) rfl (L' := [some (.ref m), some (.int 1), some (.int 200), none, none]) rfl ?_
  refine j_iconst X dX5_sweep_6 (v := 0) (by decide) ?_
  refine j_istore_n X 3 dX5_sweep_7 rfl (by decide) rfl (L' := [some (.ref m), some (.int 1), some (.int 200), some (.int 0), none]) rfl ?_
  refine j_iload_n X 2 dX5_sweep_8 rfl rfl ?_
  refine j_istore X dX5_sweep_9 (by decide) rfl (L' := [some (.ref m), some (.int 1), some (.int 200), some (.int 0), some (.int 200)]) rfl ?_
  exact loop le.length 0 0 M ft fk fv (by omega) rfl hm hr0 (fun j hj => absurd hj (Nat.not_lt_zero j)) (fun q _ => ⟨rfl, rfl, rfl⟩) (fun _ _ => rfl)
