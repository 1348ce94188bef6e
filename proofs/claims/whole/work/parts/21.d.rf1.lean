set_option maxHeartbeats 800000 in
set_option maxRecDepth 100000 in
theorem c_X5_in (l : Launch) (D : va_G) {ty : jT} {cA : ClassId} (hI : ty[0]? = some (cA, .int)) (b0 : Nat) {M : jM} {n : Nat} (x a b : Int32) : Ct l D ty vwCl nwSQ b0 yX5_in wsX5_in 0 0 0 0 [.int x, .int a, .int b] M n (j_rd (.int (if a ≤ x ∧ x ≤ b then 1 else 0)) M n) := by
  refine j_start (cc := cX5_in) (maxL := 3) (ret := (some .boolean)) (by decide) rfl [some (.int x), some (.int a), some (.int b)] (Nat.le_of_ble_eq_true rfl) rfl ?_
  intro p e s m0 below meth c X hlk hr hnm
  refine j_iload_n X 0 dX5_in_0 rfl rfl ?_
  refine j_iload_n X 1 dX5_in_1 rfl rfl ?_
  refine j_icmp_lt X 14 dX5_in_2 (by decide) (fun c1 => ?_) (fun c1 => ?_)
  · skip
    refine j_iconst X dX5_in_14 (v := 0) (by decide) ?_
    exact j_zret X hlk hr (by omega) (by omega) (by decide) dX5_in_15 ⟨by rw [if_neg (fun h => absurd c1 (Int32.not_lt.mpr h.1))], rfl, rfl⟩
  · skip
    refine j_iload_n X 0 dX5_in_5 rfl rfl ?_
    refine j_iload_n X 2 dX5_in_6 rfl rfl ?_
    refine j_icmp_gt X 14 dX5_in_7 (by decide) (fun c2 => ?_) (fun c2 => ?_)
    · skip
      refine j_iconst X dX5_in_14 (v := 0) (by decide) ?_
      exact j_zret X hlk hr (by omega) (by omega) (by decide) dX5_in_15 ⟨by rw [if_neg (fun h => absurd c2 (Int32.not_lt.mpr h.2))], rfl, rfl⟩
    · skip
      refine j_iconst X dX5_in_10 (v := 1) (by decide) ?_
      refine j_goto X 15 dX5_in_11 (by decide) ?_
      exact j_zret X hlk hr (by omega) (by omega) (by decide) dX5_in_15 ⟨by rw [if_pos ⟨Int32.not_lt.mp c1, Int32.not_lt.mp c2⟩], rfl, rfl⟩
set_option maxHeartbeats 800000 in
set_option maxRecDepth 100000 in
theorem c_X5_isTime (l : Launch) (D : va_G) {ty : jT} {cA : ClassId} (hI : ty[0]? = some (cA, .int)) (b0 : Nat) {M : jM} {n : Nat} (t : Int32) : Ct l D ty vwCl nwSQ b0 yX5_isTime wsX5_isTime 1 22 0 0 [.int t] M n (j_rd (.int (if -1000000000 ≤ t ∧ t ≤ 1000000000 then 1 else 0)) M n) := by
  refine j_start (cc := cX5_isTime) (maxL := 1) (ret := (some .boolean)) (by decide) rfl [some (.int t)] (Nat.le_of_ble_eq_true rfl) rfl ?_
  intro p e s m0 below meth c X hlk hr hnm
  refine j_iload_n X 0 dX5_isTime_0 rfl rfl ?_
  refine j_ldc X dX5_isTime_1 wdX5_isTime_c73 ?_
  refine j_ldc X dX5_isTime_3 wdX5_isTime_c74 ?_
  refine j_callS X nwSQ_ok (As := [.int t, .int (-1000000000), .int 1000000000]) (rest := []) rfl (c_X5_in l D hI b0 t (-1000000000) 1000000000) rfl gX5_isTime_X5_in ddX5_in ⟨Nat.le_of_ble_eq_true rfl, Nat.le_of_ble_eq_true rfl⟩ (Nat.le_of_ble_eq_true rfl) rfl dX5_isTime_5 ⟨(by show 0 + 0 ≤ 0; omega), (by show 0 + 0 ≤ 0; omega)⟩ (fun r3 M4 n5 hr6 => ?_)
  obtain ⟨rfl, rfl, rfl⟩ := hr6
  refine j_st (st := [.int (if (-1000000000) ≤ t ∧ t ≤ 1000000000 then 1 else 0)]) rfl ?_
  exact j_zret X hlk hr (by omega) (by omega) (by split <;> rfl) dX5_isTime_8 ⟨rfl, rfl, rfl⟩
set_option maxHeartbeats 800000 in
set_option maxRecDepth 100000 in
theorem c_X5_mark (l : Launch) (D : va_G) {ty : jT} {cA : ClassId} (hI : ty[0]? = some (cA, .int)) (b0 : Nat) {M : jM} {n m : Nat} {w sl la sp rm ln qd lt pr tl tk sm my gr rc : Int32} {ft fk fv kp mk qa : Nat → Int32} (hm : M m = some (rfO m w sl la sp rm ln qd lt pr tl tk sm my gr rc)) (hr0 : RA M m ft fk fv kp mk qa) : Ct l D ty vwCl nwSQ b0 yX5_mark wsX5_mark 0 0 0 0 [.ref m] M n (j_rd (.int (mn (mk 0) (mk 1))) M n) := by
  have hm : M m = some (.inr (5, [.int w, .int sl, .int la, .int sp, .int rm, .int ln, .ref (m + 1), .ref (m + 2), .ref (m + 3), .ref (m + 4), .ref (m + 5), .ref (m + 6), .int qd, .int lt, .int pr, .int tl, .int tk, .int sm, .int my, .int gr, .int rc])) := hm
  obtain ⟨h1, h2, h3, h4, h5, h6⟩ := id hr0
  refine j_start (cc := cX5_mark) (maxL := 1) (ret := (some .int)) (by decide) rfl [some (.ref m)] (Nat.le_of_ble_eq_true rfl) rfl ?_
  intro p e s m0 below meth c X hlk hr hnm
  refine j_aload_n X 0 dX5_mark_0 rfl rfl ?_
  refine j_get X hm rfl iwX5_mark_X5 10 (by decide) lkX5_mark_35 rfl dX5_mark_1 ?_
  refine j_iconst X dX5_mark_4 (v := 0) (by decide) ?_
  refine j_iald X h5 hI (vp_in_nI (n := 0) (by decide) (by decide)) (v := mk 0) (congrArg mk (by decide : (0 : Int32).toNatClampNeg = 0)) dX5_mark_5 ?_
  refine j_aload_n X 0 dX5_mark_6 rfl rfl ?_
  refine j_get X hm rfl iwX5_mark_X5 10 (by decide) lkX5_mark_35 rfl dX5_mark_7 ?_
  refine j_iconst X dX5_mark_10 (v := 1) (by decide) ?_
  refine j_iald X h5 hI (vp_in_nI (n := 1) (by decide) (by decide)) (v := mk 1) (congrArg mk (by decide : (1 : Int32).toNatClampNeg = 1)) dX5_mark_11 ?_
  refine j_icmp_ge X 24 dX5_mark_12 (by decide) (fun c7 => ?_) (fun c7 => ?_)
  · skip
    refine j_aload_n X 0 dX5_mark_24 rfl rfl ?_
    refine j_get X hm rfl iwX5_mark_X5 10 (by decide) lkX5_mark_35 rfl dX5_mark_25 ?_
    refine j_iconst X dX5_mark_28 (v := 1) (by decide) ?_
    refine j_iald X h5 hI (vp_in_nI (n := 1) (by decide) (by decide)) (v := mk 1) (congrArg mk (by decide : (1 : Int32).toNatClampNeg = 1)) dX5_mark_29 ?_
    exact j_iret X hlk hr (by omega) (by omega) dX5_mark_30 ⟨congrArg (fun z => some (Value.int z)) (mn_ge c7).symm, rfl, rfl⟩
  · skip
    refine j_aload_n X 0 dX5_mark_15 rfl rfl ?_
    refine j_get X hm rfl iwX5_mark_X5 10 (by decide) lkX5_mark_35 rfl dX5_mark_16 ?_
    refine j_iconst X dX5_mark_19 (v := 0) (by decide) ?_
    refine j_iald X h5 hI (vp_in_nI (n := 0) (by decide) (by decide)) (v := mk 0) (congrArg mk (by decide : (0 : Int32).toNatClampNeg = 0)) dX5_mark_20 ?_
    refine j_goto X 30 dX5_mark_21 (by decide) ?_
    exact j_iret X hlk hr (by omega) (by omega) dX5_mark_30 ⟨congrArg (fun z => some (Value.int z)) (mn_lt c7).symm, rfl, rfl⟩
set_option maxHeartbeats 800000 in
set_option maxRecDepth 100000 in
theorem c_X5_available (l : Launch) (D : va_G) {ty : jT} {cA : ClassId} (hI : ty[0]? = some (cA, .int)) (b0 : Nat) {M : jM} {n m : Nat} {w sl la sp rm ln qd lt pr tl tk sm my gr rc : Int32} {ft fk fv kp mk qa : Nat → Int32} (hm : M m = some (rfO m w sl la sp rm ln qd lt pr tl tk sm my gr rc)) (hr0 : RA M m ft fk fv kp mk qa) : Ct l D ty vwCl nwSQ b0 yX5_available wsX5_available 0 0 0 0 [.ref m] M n (j_rd (.int qd) M n) := by
  have hm : M m = some (.inr (5, [.int w, .int sl, .int la, .int sp, .int rm, .int ln, .ref (m + 1), .ref (m + 2), .ref (m + 3), .ref (m + 4), .ref (m + 5), .ref (m + 6), .int qd, .int lt, .int pr, .int tl, .int tk, .int sm, .int my, .int gr, .int rc])) := hm
  obtain ⟨h1, h2, h3, h4, h5, h6⟩ := id hr0
  refine j_start (cc := cX5_available) (maxL := 1) (ret := (some .int)) (by decide) rfl [some (.ref m)] (Nat.le_of_ble_eq_true rfl) rfl ?_
  intro p e s m0 below meth c X hlk hr hnm
  refine j_aload_n X 0 dX5_available_0 rfl rfl ?_
  refine j_get X hm rfl iwX5_available_X5 12 (by decide) lkX5_available_45 rfl dX5_available_1 ?_
  exact j_iret X hlk hr (by omega) (by omega) dX5_available_4 ⟨rfl, rfl, rfl⟩
set_option maxHeartbeats 800000 in
set_option maxRecDepth 100000 in
theorem c_X5_isOver (l : Launch) (D : va_G) {ty : jT} {cA : ClassId} (hI : ty[0]? = some (cA, .int)) (b0 : Nat) {M : jM} {n m : Nat} {w sl la sp rm ln qd lt pr tl tk sm my gr rc : Int32} {ft fk fv kp mk qa : Nat → Int32} (hm : M m = some (rfO m w sl la sp rm ln qd lt pr tl tk sm my gr rc)) (hr0 : RA M m ft fk fv kp mk qa) (e1 k1 : Int) (he : bigI (e1 + la.toInt)) (hk : bigI k1) : Ct l D ty vwCl nwSQ b0 yX5_isOver wsX5_isOver 0 0 0 0 [.ref m, .long (lI e1), .long (lI k1)] M n (j_rd (.int (if e1 + la.toInt ≤ k1 then 1 else 0)) M n) := by
  have hm : M m = some (.inr (5, [.int w, .int sl, .int la, .int sp, .int rm, .int ln, .ref (m + 1), .ref (m + 2), .ref (m + 3), .ref (m + 4), .ref (m + 5), .ref (m + 6), .int qd, .int lt, .int pr, .int tl, .int tk, .int sm, .int my, .int gr, .int rc])) := hm
  obtain ⟨h1, h2, h3, h4, h5, h6⟩ := id hr0
  refine j_start (cc := cX5_isOver) (maxL := 5) (ret := (some .boolean)) (by decide) rfl [some (.ref m), some (.long (lI e1)), none, some (.long (lI k1)), none] (Nat.le_of_ble_eq_true rfl) rfl ?_
  intro p e s m0 below meth c X hlk hr hnm
  refine j_lload_n X 1 dX5_isOver_0 rfl rfl ?_
  refine j_aload_n X 0 dX5_isOver_1 rfl rfl ?_
  refine j_get X hm rfl iwX5_isOver_X5 2 (by decide) lkX5_isOver_67 rfl dX5_isOver_2 ?_
  refine j_i2l X dX5_isOver_5 ?_
  refine j_st (st := [.long (lI la.toInt), .long (lI e1)]) (by rw [l_of la]) ?_
  refine j_ladd X dX5_isOver_6 ?_
  refine j_st (st := [.long (lI (e1 + la.toInt))]) (by rw [lI_add]) ?_
  refine j_lload_n X 3 dX5_isOver_7 rfl rfl ?_
  refine j_lc_gt X 16 dX5_isOver_8 dX5_isOver_9 (by decide) (fun c8 => ?_) (fun c8 => ?_)
  · skip
    refine j_iconst X dX5_isOver_16 (v := 0) (by decide) ?_
    exact j_zret X hlk hr (by omega) (by omega) (by decide) dX5_isOver_17 ⟨by rw [if_neg (Int.not_le.mpr ((lI_lt hk he).mp c8))], rfl, rfl⟩
  · skip
    refine j_iconst X dX5_isOver_12 (v := 1) (by decide) ?_
    refine j_goto X 17 dX5_isOver_13 (by decide) ?_
    exact j_zret X hlk hr (by omega) (by omega) (by decide) dX5_isOver_17 ⟨by rw [if_pos (Int.not_lt.mp (fun q => c8 ((lI_lt hk he).mpr q)))], rfl, rfl⟩
set_option maxHeartbeats 800000 in
set_option maxRecDepth 100000 in
theorem c_X5_isIn (l : Launch) (D : va_G) {ty : jT} {cA : ClassId} (hI : ty[0]? = some (cA, .int)) (b0 : Nat) {M : jM} {n m : Nat} {w sl la sp rm ln qd lt pr tl tk sm my gr rc : Int32} {ft fk fv kp mk qa : Nat → Int32} (hm : M m = some (rfO m w sl la sp rm ln qd lt pr tl tk sm my gr rc)) (hr0 : RA M m ft fk fv kp mk qa) {j : Nat} (hj : j < 400) (e1 : Int) (he2 : -100000000000 ≤ e1 ∧ e1 ≤ 100000000000) : Ct l D ty vwCl nwSQ b0 yX5_isIn wsX5_isIn 0 0 0 0 [.ref m, .int (nI j), .long (lI e1)] M n (j_rd (.int (if (ft j).toInt < e1 ∧ e1 - w.toInt ≤ (ft j).toInt then 1 else 0)) M n) := by
  have hm : M m = some (.inr (5, [.int w, .int sl, .int la, .int sp, .int rm, .int ln, .ref (m + 1), .ref (m + 2), .ref (m + 3), .ref (m + 4), .ref (m + 5), .ref (m + 6), .int qd, .int lt, .int pr, .int tl, .int tk, .int sm, .int my, .int gr, .int rc])) := hm
  obtain ⟨h1, h2, h3, h4, h5, h6⟩ := id hr0
  have ht : bigI (ft j).toInt := by have := i_rng (ft j); exact ⟨by omega, by omega⟩
  have hew : bigI (e1 - w.toInt) := by have := i_rng w; exact ⟨by have := he2.1; omega, by have := he2.2; omega⟩
  have he : bigI e1 := ⟨by have := he2.1; omega, by have := he2.2; omega⟩
  refine j_start (cc := cX5_isIn) (maxL := 4) (ret := (some .boolean)) (by decide) rfl [some (.ref m), some (.int (nI j)), some (.long (lI e1)), none] (Nat.le_of_ble_eq_true rfl) rfl ?_
  intro p e s m0 below meth c X hlk hr hnm
  refine j_aload_n X 0 dX5_isIn_0 rfl rfl ?_
  refine j_get X hm rfl iwX5_isIn_X5 6 (by decide) lkX5_isIn_22 rfl dX5_isIn_1 ?_
  refine j_iload_n X 1 dX5_isIn_4 rfl rfl ?_
  refine j_iald X h1 hI (vp_in_nI (show j < 400 by omega) (by decide)) (v := ft j) (congrArg ft (nI_clamp (show j < 2 ^ 31 by omega))) dX5_isIn_5 ?_
  refine j_i2l X dX5_isIn_6 ?_
  refine j_st (st := [.long (lI (ft j).toInt)]) (by rw [l_of (ft j)]) ?_
  refine j_lload_n X 2 dX5_isIn_7 rfl rfl ?_
  refine j_lc_ge X 34 dX5_isIn_8 dX5_isIn_9 (by decide) (fun c9 => ?_) (fun c9 => ?_)
  · skip
    refine j_iconst X dX5_isIn_34 (v := 0) (by decide) ?_
    exact j_zret X hlk hr (by omega) (by omega) (by decide) dX5_isIn_35 ⟨by rw [if_neg (fun h => Int.not_lt.mpr ((lI_le he ht).mp c9) h.1)], rfl, rfl⟩
  · skip
    refine j_aload_n X 0 dX5_isIn_12 rfl rfl ?_
    refine j_get X hm rfl iwX5_isIn_X5 6 (by decide) lkX5_isIn_22 rfl dX5_isIn_13 ?_
    refine j_iload_n X 1 dX5_isIn_16 rfl rfl ?_
    refine j_iald X h1 hI (vp_in_nI (show j < 400 by omega) (by decide)) (v := ft j) (congrArg ft (nI_clamp (show j < 2 ^ 31 by omega))) dX5_isIn_17 ?_
    refine j_i2l X dX5_isIn_18 ?_
    refine j_st (st := [.long (lI (ft j).toInt)]) (by rw [l_of (ft j)]) ?_
    refine j_lload_n X 2 dX5_isIn_19 rfl rfl ?_
    refine j_aload_n X 0 dX5_isIn_20 rfl rfl ?_
    refine j_get X hm rfl iwX5_isIn_X5 0 (by decide) lkX5_isIn_7 rfl dX5_isIn_21 ?_
    refine j_i2l X dX5_isIn_24 ?_
    refine j_st (st := [.long (lI w.toInt), .long (lI e1), .long (lI (ft j).toInt)]) (by rw [l_of w]) ?_
    refine j_lsub X dX5_isIn_25 ?_
    refine j_st (st := [.long (lI (e1 - w.toInt)), .long (lI (ft j).toInt)]) (by rw [lI_sub]) ?_
    refine j_lc_lt X 34 dX5_isIn_26 dX5_isIn_27 (by decide) (fun c10 => ?_) (fun c10 => ?_)
    · skip
      refine j_iconst X dX5_isIn_34 (v := 0) (by decide) ?_
      exact j_zret X hlk hr (by omega) (by omega) (by decide) dX5_isIn_35 ⟨by rw [if_neg (fun h => Int.not_lt.mpr h.2 ((lI_lt ht hew).mp c10))], rfl, rfl⟩
    · skip
      refine j_iconst X dX5_isIn_30 (v := 1) (by decide) ?_
      refine j_goto X 35 dX5_isIn_31 (by decide) ?_
      exact j_zret X hlk hr (by omega) (by omega) (by decide) dX5_isIn_35 ⟨by rw [if_pos ⟨Int.not_le.mp (fun q => c9 ((lI_le he ht).mpr q)), Int.not_lt.mp (fun q => c10 ((lI_lt ht hew).mpr q))⟩], rfl, rfl⟩
set_option maxHeartbeats 800000 in
set_option maxRecDepth 100000 in
theorem c_X5_lastEnd (l : Launch) (D : va_G) {ty : jT} {cA : ClassId} (hI : ty[0]? = some (cA, .int)) (b0 : Nat) {M : jM} {n m : Nat} {w sl la sp rm ln qd lt pr tl tk sm my gr rc : Int32} {ft fk fv kp mk qa : Nat → Int32} (hm : M m = some (rfO m w sl la sp rm ln qd lt pr tl tk sm my gr rc)) (hr0 : RA M m ft fk fv kp mk qa) {j : Nat} (hj : j < 400) (hw : 1 ≤ sl.toInt ∧ sl.toInt ≤ 1000000) (ht : -1000000000 ≤ (ft j).toInt ∧ (ft j).toInt ≤ 1000000000) : Ct l D ty vwCl nwSQ b0 yX5_lastEnd wsX5_lastEnd 0 0 0 0 [.ref m, .int (nI j)] M n (j_rd (.long (lI (lastE w.toInt sl.toInt (ft j).toInt))) M n) := by
  have hm : M m = some (.inr (5, [.int w, .int sl, .int la, .int sp, .int rm, .int ln, .ref (m + 1), .ref (m + 2), .ref (m + 3), .ref (m + 4), .ref (m + 5), .ref (m + 6), .int qd, .int lt, .int pr, .int tl, .int tk, .int sm, .int my, .int gr, .int rc])) := hm
  obtain ⟨h1, h2, h3, h4, h5, h6⟩ := id hr0
  have hnz : ¬ sl = 0 := fun q => by rw [q] at hw; exact absurd hw.1 (by decide)
  refine j_start (cc := cX5_lastEnd) (maxL := 4) (ret := (some .long)) (by decide) rfl [some (.ref m), some (.int (nI j)), none, none] (Nat.le_of_ble_eq_true rfl) rfl ?_
  intro p e s m0 below meth c X hlk hr hnm
  refine j_aload_n X 0 dX5_lastEnd_0 rfl rfl ?_
  refine j_get X hm rfl iwX5_lastEnd_X5 6 (by decide) lkX5_lastEnd_22 rfl dX5_lastEnd_1 ?_
  refine j_iload_n X 1 dX5_lastEnd_4 rfl rfl ?_
  refine j_iald X h1 hI (vp_in_nI (show j < 400 by omega) (by decide)) (v := ft j) (congrArg ft (nI_clamp (show j < 2 ^ 31 by omega))) dX5_lastEnd_5 ?_
  refine j_aload_n X 0 dX5_lastEnd_6 rfl rfl ?_
  refine j_get X hm rfl iwX5_lastEnd_X5 6 (by decide) lkX5_lastEnd_22 rfl dX5_lastEnd_7 ?_
  refine j_iload_n X 1 dX5_lastEnd_10 rfl rfl ?_
  refine j_iald X h1 hI (vp_in_nI (show j < 400 by omega) (by decide)) (v := ft j) (congrArg ft (nI_clamp (show j < 2 ^ 31 by omega))) dX5_lastEnd_11 ?_
  refine j_aload_n X 0 dX5_lastEnd_12 rfl rfl ?_
  refine j_get X hm rfl iwX5_lastEnd_X5 1 (by decide) lkX5_lastEnd_13 rfl dX5_lastEnd_13 ?_
  refine j_irem X dX5_lastEnd_16 hnz ?_
  refine j_aload_n X 0 dX5_lastEnd_17 rfl rfl ?_
  refine j_get X hm rfl iwX5_lastEnd_X5 1 (by decide) lkX5_lastEnd_13 rfl dX5_lastEnd_18 ?_
  refine j_iadd X dX5_lastEnd_21 ?_
  refine j_aload_n X 0 dX5_lastEnd_22 rfl rfl ?_
  refine j_get X hm rfl iwX5_lastEnd_X5 1 (by decide) lkX5_lastEnd_13 rfl dX5_lastEnd_23 ?_
  refine j_irem X dX5_lastEnd_26 hnz ?_
  refine j_isub X dX5_lastEnd_27 ?_
  refine j_i2l X dX5_lastEnd_28 ?_
  refine j_st (st := [.long (lI ((ft j) - ((((ft j) - (ft j) / sl * sl) + sl) - (((ft j) - (ft j) / sl * sl) + sl) / sl * sl)).toInt)]) (by rw [l_of ((ft j) - ((((ft j) - (ft j) / sl * sl) + sl) - (((ft j) - (ft j) / sl * sl) + sl) / sl * sl))]) ?_
  refine j_lstore_n X 2 dX5_lastEnd_29 rfl (by decide) rfl (L' := [some (.ref m), some (.int (nI j)), some (.long (lI ((ft j) - ((((ft j) - (ft j) / sl * sl) + sl) - (((ft j) - (ft j) / sl * sl) + sl) / sl * sl)).toInt)), none]) rfl ?_
  refine j_lload_n X 2 dX5_lastEnd_30 rfl rfl ?_
  refine j_aload_n X 0 dX5_lastEnd_31 rfl rfl ?_
  refine j_get X hm rfl iwX5_lastEnd_X5 0 (by decide) lkX5_lastEnd_7 rfl dX5_lastEnd_32 ?_
  refine j_i2l X dX5_lastEnd_35 ?_
  refine j_st (st := [.long (lI w.toInt), .long (lI ((ft j) - ((((ft j) - (ft j) / sl * sl) + sl) - (((ft j) - (ft j) / sl * sl) + sl) / sl * sl)).toInt)]) (by rw [l_of w]) ?_
  refine j_ladd X dX5_lastEnd_36 ?_
  refine j_st (st := [.long (lI ((((ft j) - ((((ft j) - (ft j) / sl * sl) + sl) - (((ft j) - (ft j) / sl * sl) + sl) / sl * sl)).toInt) + w.toInt))]) (by rw [lI_add]) ?_
  exact j_lret X hlk hr (by omega) (by omega) dX5_lastEnd_37 ⟨congrArg (fun z => some (Value.long (lI (z + w.toInt)))) (lastE_eq hw ht), rfl, rfl⟩
set_option maxHeartbeats 800000 in
set_option maxRecDepth 100000 in
theorem c_X5_record (l : Launch) (D : va_G) {ty : jT} {cA : ClassId} (hI : ty[0]? = some (cA, .int)) (b0 : Nat) {M : jM} {n m z : Nat} {w sl la sp rm ln qd lt pr tl tk sm my gr rc : Int32} {ft fk fv kp mk qa : Nat → Int32} (hm : M m = some (rfO m w sl la sp rm ln (nI z) lt pr tl tk sm my gr rc)) (hr0 : RA M m ft fk fv kp mk qa) (hz : z < 400) (a0 a1 a2 a3 a4 a5 : Int32) : Ct l D ty vwCl nwSQ b0 yX5_record wsX5_record 0 0 0 0 [.ref m, .int a0, .int a1, .int a2, .int a3, .int a4, .int a5] M n (fun r M' n' => r = none ∧ n = n' ∧ M' m = some (rfO m w sl la sp rm ln (nI (z + 1)) lt pr tl tk sm my gr rc) ∧ RA M' m ft fk fv kp mk (upd (upd (upd (upd (upd (upd qa (6 * z) a0) (6 * z + 1) a1) (6 * z + 2) a2) (6 * z + 3) a3) (6 * z + 4) a4) (6 * z + 5) a5) ∧ ∀ q, (q < m ∨ m + 6 < q) → M' q = M q) := by
  have hm : M m = some (.inr (5, [.int w, .int sl, .int la, .int sp, .int rm, .int ln, .ref (m + 1), .ref (m + 2), .ref (m + 3), .ref (m + 4), .ref (m + 5), .ref (m + 6), .int (nI z), .int lt, .int pr, .int tl, .int tk, .int sm, .int my, .int gr, .int rc])) := hm
  obtain ⟨h1, h2, h3, h4, h5, h6⟩ := id hr0
  refine j_start (cc := cX5_record) (maxL := 8) (ret := none) (by decide) rfl [some (.ref m), some (.int a0), some (.int a1), some (.int a2), some (.int a3), some (.int a4), some (.int a5), none] (Nat.le_of_ble_eq_true rfl) rfl ?_
  intro p e s m0 below meth c X hlk hr hnm
  refine j_bipush X dX5_record_0 (v := 6) (by decide) ?_
  refine j_aload_n X 0 dX5_record_2 rfl rfl ?_
  refine j_get X hm rfl iwX5_record_X5 12 (by decide) lkX5_record_45 rfl dX5_record_3 ?_
  refine j_imul X dX5_record_6 ?_
  refine j_st (st := [.int (nI (6 * z))]) (by rw [show (6 : Int32) * nI z = nI (6 * z) from pk_mul 6 z]) ?_
  refine j_istore X dX5_record_7 (by decide) rfl (L' := [some (.ref m), some (.int a0), some (.int a1), some (.int a2), some (.int a3), some (.int a4), some (.int a5), some (.int (nI (6 * z)))]) rfl ?_
  refine j_aload_n X 0 dX5_record_9 rfl rfl ?_
  refine j_get X hm rfl iwX5_record_X5 11 (by decide) lkX5_record_38 rfl dX5_record_10 ?_
  refine j_iload X dX5_record_13 rfl ?_
  refine j_iload_n X 1 dX5_record_15 rfl rfl ?_
  refine j_iast X h6 hI (vp_in_nI (show 6 * z < 2400 by omega) (by decide)) dX5_record_16 ?_
  rw [nI_clamp (show 6 * z < 2 ^ 31 by omega)]
  generalize eM11 : j_up M (m + 6) (.inl (0, 2400, .inl (upd qa (6 * z) a0))) = M11
  have h12 : M11 m = some (.inr (5, [.int w, .int sl, .int la, .int sp, .int rm, .int ln, .ref (m + 1), .ref (m + 2), .ref (m + 3), .ref (m + 4), .ref (m + 5), .ref (m + 6), .int (nI z), .int lt, .int pr, .int tl, .int tk, .int sm, .int my, .int gr, .int rc])) := by rw [← eM11, j_up_ne _ _ (by omega)]; exact hm
  have h13 : M11 (m + 1) = some (.inl (0, 400, .inl ft)) := by rw [← eM11, j_up_ne _ _ (by omega)]; exact h1
  have h14 : M11 (m + 2) = some (.inl (0, 400, .inl fk)) := by rw [← eM11, j_up_ne _ _ (by omega)]; exact h2
  have h15 : M11 (m + 3) = some (.inl (0, 400, .inl fv)) := by rw [← eM11, j_up_ne _ _ (by omega)]; exact h3
  have h16 : M11 (m + 4) = some (.inl (0, 2, .inl kp)) := by rw [← eM11, j_up_ne _ _ (by omega)]; exact h4
  have h17 : M11 (m + 5) = some (.inl (0, 2, .inl mk)) := by rw [← eM11, j_up_ne _ _ (by omega)]; exact h5
  have h19 : M11 (m + 6) = some (.inl (0, 2400, .inl (upd qa (6 * z) a0))) := by rw [← eM11]; exact j_up_self _ _ _
  refine j_aload_n X 0 dX5_record_17 rfl rfl ?_
  refine j_get X h12 rfl iwX5_record_X5 11 (by decide) lkX5_record_38 rfl dX5_record_18 ?_
  refine j_iload X dX5_record_21 rfl ?_
  refine j_iconst X dX5_record_23 (v := 1) (by decide) ?_
  refine j_iadd X dX5_record_24 ?_
  refine j_st (st := [.int (nI (6 * z + 1)), .ref (m + 6)]) (by rw [show (nI (6 * z)) + 1 = nI (6 * z + 1) from nI_add _ 1]) ?_
  refine j_iload_n X 2 dX5_record_25 rfl rfl ?_
  refine j_iast X h19 hI (vp_in_nI (show 6 * z + 1 < 2400 by omega) (by decide)) dX5_record_26 ?_
  rw [nI_clamp (show 6 * z + 1 < 2 ^ 31 by omega)]
  generalize eM20 : j_up M11 (m + 6) (.inl (0, 2400, .inl (upd (upd qa (6 * z) a0) (6 * z + 1) a1))) = M20
  have h21 : M20 m = some (.inr (5, [.int w, .int sl, .int la, .int sp, .int rm, .int ln, .ref (m + 1), .ref (m + 2), .ref (m + 3), .ref (m + 4), .ref (m + 5), .ref (m + 6), .int (nI z), .int lt, .int pr, .int tl, .int tk, .int sm, .int my, .int gr, .int rc])) := by rw [← eM20, j_up_ne _ _ (by omega)]; exact h12
  have h22 : M20 (m + 1) = some (.inl (0, 400, .inl ft)) := by rw [← eM20, j_up_ne _ _ (by omega)]; exact h13
  have h23 : M20 (m + 2) = some (.inl (0, 400, .inl fk)) := by rw [← eM20, j_up_ne _ _ (by omega)]; exact h14
  have h24 : M20 (m + 3) = some (.inl (0, 400, .inl fv)) := by rw [← eM20, j_up_ne _ _ (by omega)]; exact h15
  have h25 : M20 (m + 4) = some (.inl (0, 2, .inl kp)) := by rw [← eM20, j_up_ne _ _ (by omega)]; exact h16
  have h26 : M20 (m + 5) = some (.inl (0, 2, .inl mk)) := by rw [← eM20, j_up_ne _ _ (by omega)]; exact h17
  have h28 : M20 (m + 6) = some (.inl (0, 2400, .inl (upd (upd qa (6 * z) a0) (6 * z + 1) a1))) := by rw [← eM20]; exact j_up_self _ _ _
  refine j_aload_n X 0 dX5_record_27 rfl rfl ?_
  refine j_get X h21 rfl iwX5_record_X5 11 (by decide) lkX5_record_38 rfl dX5_record_28 ?_
  refine j_iload X dX5_record_31 rfl ?_
  refine j_iconst X dX5_record_33 (v := 2) (by decide) ?_
  refine j_iadd X dX5_record_34 ?_
  refine j_st (st := [.int (nI (6 * z + 2)), .ref (m + 6)]) (by rw [show (nI (6 * z)) + 2 = nI (6 * z + 2) from nI_add _ 2]) ?_
  refine j_iload_n X 3 dX5_record_35 rfl rfl ?_
  refine j_iast X h28 hI (vp_in_nI (show 6 * z + 2 < 2400 by omega) (by decide)) dX5_record_36 ?_
  rw [nI_clamp (show 6 * z + 2 < 2 ^ 31 by omega)]
  generalize eM29 : j_up M20 (m + 6) (.inl (0, 2400, .inl (upd (upd (upd qa (6 * z) a0) (6 * z + 1) a1) (6 * z + 2) a2))) = M29
  have h30 : M29 m = some (.inr (5, [.int w, .int sl, .int la, .int sp, .int rm, .int ln, .ref (m + 1), .ref (m + 2), .ref (m + 3), .ref (m + 4), .ref (m + 5), .ref (m + 6), .int (nI z), .int lt, .int pr, .int tl, .int tk, .int sm, .int my, .int gr, .int rc])) := by rw [← eM29, j_up_ne _ _ (by omega)]; exact h21
  have h31 : M29 (m + 1) = some (.inl (0, 400, .inl ft)) := by rw [← eM29, j_up_ne _ _ (by omega)]; exact h22
  have h32 : M29 (m + 2) = some (.inl (0, 400, .inl fk)) := by rw [← eM29, j_up_ne _ _ (by omega)]; exact h23
  have h33 : M29 (m + 3) = some (.inl (0, 400, .inl fv)) := by rw [← eM29, j_up_ne _ _ (by omega)]; exact h24
  have h34 : M29 (m + 4) = some (.inl (0, 2, .inl kp)) := by rw [← eM29, j_up_ne _ _ (by omega)]; exact h25
  have h35 : M29 (m + 5) = some (.inl (0, 2, .inl mk)) := by rw [← eM29, j_up_ne _ _ (by omega)]; exact h26
  have h37 : M29 (m + 6) = some (.inl (0, 2400, .inl (upd (upd (upd qa (6 * z) a0) (6 * z + 1) a1) (6 * z + 2) a2))) := by rw [← eM29]; exact j_up_self _ _ _
  refine j_aload_n X 0 dX5_record_37 rfl rfl ?_
  refine j_get X h30 rfl iwX5_record_X5 11 (by decide) lkX5_record_38 rfl dX5_record_38 ?_
  refine j_iload X dX5_record_41 rfl ?_
  refine j_iconst X dX5_record_43 (v := 3) (by decide) ?_
  refine j_iadd X dX5_record_44 ?_
  refine j_st (st := [.int (nI (6 * z + 3)), .ref (m + 6)]) (by rw [show (nI (6 * z)) + 3 = nI (6 * z + 3) from nI_add _ 3]) ?_
  refine j_iload X dX5_record_45 rfl ?_
  refine j_iast X h37 hI (vp_in_nI (show 6 * z + 3 < 2400 by omega) (by decide)) dX5_record_47 ?_
  rw [nI_clamp (show 6 * z + 3 < 2 ^ 31 by omega)]
  generalize eM38 : j_up M29 (m + 6) (.inl (0, 2400, .inl (upd (upd (upd (upd qa (6 * z) a0) (6 * z + 1) a1) (6 * z + 2) a2) (6 * z + 3) a3))) = M38
  have h39 : M38 m = some (.inr (5, [.int w, .int sl, .int la, .int sp, .int rm, .int ln, .ref (m + 1), .ref (m + 2), .ref (m + 3), .ref (m + 4), .ref (m + 5), .ref (m + 6), .int (nI z), .int lt, .int pr, .int tl, .int tk, .int sm, .int my, .int gr, .int rc])) := by rw [← eM38, j_up_ne _ _ (by omega)]; exact h30
  have h40 : M38 (m + 1) = some (.inl (0, 400, .inl ft)) := by rw [← eM38, j_up_ne _ _ (by omega)]; exact h31
  have h41 : M38 (m + 2) = some (.inl (0, 400, .inl fk)) := by rw [← eM38, j_up_ne _ _ (by omega)]; exact h32
  have h42 : M38 (m + 3) = some (.inl (0, 400, .inl fv)) := by rw [← eM38, j_up_ne _ _ (by omega)]; exact h33
  have h43 : M38 (m + 4) = some (.inl (0, 2, .inl kp)) := by rw [← eM38, j_up_ne _ _ (by omega)]; exact h34
  have h44 : M38 (m + 5) = some (.inl (0, 2, .inl mk)) := by rw [← eM38, j_up_ne _ _ (by omega)]; exact h35
  have h46 : M38 (m + 6) = some (.inl (0, 2400, .inl (upd (upd (upd (upd qa (6 * z) a0) (6 * z + 1) a1) (6 * z + 2) a2) (6 * z + 3) a3))) := by rw [← eM38]; exact j_up_self _ _ _
  refine j_aload_n X 0 dX5_record_48 rfl rfl ?_
  refine j_get X h39 rfl iwX5_record_X5 11 (by decide) lkX5_record_38 rfl dX5_record_49 ?_
  refine j_iload X dX5_record_52 rfl ?_
  refine j_iconst X dX5_record_54 (v := 4) (by decide) ?_
  refine j_iadd X dX5_record_55 ?_
  refine j_st (st := [.int (nI (6 * z + 4)), .ref (m + 6)]) (by rw [show (nI (6 * z)) + 4 = nI (6 * z + 4) from nI_add _ 4]) ?_
  refine j_iload X dX5_record_56 rfl ?_
  refine j_iast X h46 hI (vp_in_nI (show 6 * z + 4 < 2400 by omega) (by decide)) dX5_record_58 ?_
  rw [nI_clamp (show 6 * z + 4 < 2 ^ 31 by omega)]
  generalize eM47 : j_up M38 (m + 6) (.inl (0, 2400, .inl (upd (upd (upd (upd (upd qa (6 * z) a0) (6 * z + 1) a1) (6 * z + 2) a2) (6 * z + 3) a3) (6 * z + 4) a4))) = M47
  have h48 : M47 m = some (.inr (5, [.int w, .int sl, .int la, .int sp, .int rm, .int ln, .ref (m + 1), .ref (m + 2), .ref (m + 3), .ref (m + 4), .ref (m + 5), .ref (m + 6), .int (nI z), .int lt, .int pr, .int tl, .int tk, .int sm, .int my, .int gr, .int rc])) := by rw [← eM47, j_up_ne _ _ (by omega)]; exact h39
  have h49 : M47 (m + 1) = some (.inl (0, 400, .inl ft)) := by rw [← eM47, j_up_ne _ _ (by omega)]; exact h40
  have h50 : M47 (m + 2) = some (.inl (0, 400, .inl fk)) := by rw [← eM47, j_up_ne _ _ (by omega)]; exact h41
  have h51 : M47 (m + 3) = some (.inl (0, 400, .inl fv)) := by rw [← eM47, j_up_ne _ _ (by omega)]; exact h42
  have h52 : M47 (m + 4) = some (.inl (0, 2, .inl kp)) := by rw [← eM47, j_up_ne _ _ (by omega)]; exact h43
  have h53 : M47 (m + 5) = some (.inl (0, 2, .inl mk)) := by rw [← eM47, j_up_ne _ _ (by omega)]; exact h44
  have h55 : M47 (m + 6) = some (.inl (0, 2400, .inl (upd (upd (upd (upd (upd qa (6 * z) a0) (6 * z + 1) a1) (6 * z + 2) a2) (6 * z + 3) a3) (6 * z + 4) a4))) := by rw [← eM47]; exact j_up_self _ _ _
  refine j_aload_n X 0 dX5_record_59 rfl rfl ?_
  refine j_get X h48 rfl iwX5_record_X5 11 (by decide) lkX5_record_38 rfl dX5_record_60 ?_
  refine j_iload X dX5_record_63 rfl ?_
  refine j_iconst X dX5_record_65 (v := 5) (by decide) ?_
  refine j_iadd X dX5_record_66 ?_
  refine j_st (st := [.int (nI (6 * z + 5)), .ref (m + 6)]) (by rw [show (nI (6 * z)) + 5 = nI (6 * z + 5) from nI_add _ 5]) ?_
  refine j_iload X dX5_record_67 rfl ?_
  refine j_iast X h55 hI (vp_in_nI (show 6 * z + 5 < 2400 by omega) (by decide)) dX5_record_69 ?_
  rw [nI_clamp (show 6 * z + 5 < 2 ^ 31 by omega)]
  generalize eM56 : j_up M47 (m + 6) (.inl (0, 2400, .inl (upd (upd (upd (upd (upd (upd qa (6 * z) a0) (6 * z + 1) a1) (6 * z + 2) a2) (6 * z + 3) a3) (6 * z + 4) a4) (6 * z + 5) a5))) = M56
  have h57 : M56 m = some (.inr (5, [.int w, .int sl, .int la, .int sp, .int rm, .int ln, .ref (m + 1), .ref (m + 2), .ref (m + 3), .ref (m + 4), .ref (m + 5), .ref (m + 6), .int (nI z), .int lt, .int pr, .int tl, .int tk, .int sm, .int my, .int gr, .int rc])) := by rw [← eM56, j_up_ne _ _ (by omega)]; exact h48
  have h58 : M56 (m + 1) = some (.inl (0, 400, .inl ft)) := by rw [← eM56, j_up_ne _ _ (by omega)]; exact h49
  have h59 : M56 (m + 2) = some (.inl (0, 400, .inl fk)) := by rw [← eM56, j_up_ne _ _ (by omega)]; exact h50
  have h60 : M56 (m + 3) = some (.inl (0, 400, .inl fv)) := by rw [← eM56, j_up_ne _ _ (by omega)]; exact h51
  have h61 : M56 (m + 4) = some (.inl (0, 2, .inl kp)) := by rw [← eM56, j_up_ne _ _ (by omega)]; exact h52
  have h62 : M56 (m + 5) = some (.inl (0, 2, .inl mk)) := by rw [← eM56, j_up_ne _ _ (by omega)]; exact h53
  have h64 : M56 (m + 6) = some (.inl (0, 2400, .inl (upd (upd (upd (upd (upd (upd qa (6 * z) a0) (6 * z + 1) a1) (6 * z + 2) a2) (6 * z + 3) a3) (6 * z + 4) a4) (6 * z + 5) a5))) := by rw [← eM56]; exact j_up_self _ _ _
  refine j_aload_n X 0 dX5_record_70 rfl rfl ?_
  refine j_dup X dX5_record_71 rfl ?_
  refine j_get X h57 rfl iwX5_record_X5 12 (by decide) lkX5_record_45 rfl dX5_record_72 ?_
  refine j_iconst X dX5_record_75 (v := 1) (by decide) ?_
  refine j_iadd X dX5_record_76 ?_
  refine j_st (st := [.int (nI (z + 1)), .ref m]) (by rw [show (nI z) + 1 = nI (z + 1) from nI_add _ 1]) ?_
  refine j_put X h57 rfl iwX5_record_X5 tyX5 tyX5_ok nmX5 12 (by decide) lkX5_record_45 rfl rfl rfl (Nat.le_of_ble_eq_true rfl) (fs' := [.int w, .int sl, .int la, .int sp, .int rm, .int ln, .ref (m + 1), .ref (m + 2), .ref (m + 3), .ref (m + 4), .ref (m + 5), .ref (m + 6), .int (nI (z + 1)), .int lt, .int pr, .int tl, .int tk, .int sm, .int my, .int gr, .int rc]) rfl dX5_record_77 ?_
  generalize eM65 : j_up M56 m (.inr (5, [.int w, .int sl, .int la, .int sp, .int rm, .int ln, .ref (m + 1), .ref (m + 2), .ref (m + 3), .ref (m + 4), .ref (m + 5), .ref (m + 6), .int (nI (z + 1)), .int lt, .int pr, .int tl, .int tk, .int sm, .int my, .int gr, .int rc])) = M65
  have h67 : M65 (m + 1) = some (.inl (0, 400, .inl ft)) := by rw [← eM65, j_up_ne _ _ (by omega)]; exact h58
  have h68 : M65 (m + 2) = some (.inl (0, 400, .inl fk)) := by rw [← eM65, j_up_ne _ _ (by omega)]; exact h59
  have h69 : M65 (m + 3) = some (.inl (0, 400, .inl fv)) := by rw [← eM65, j_up_ne _ _ (by omega)]; exact h60
  have h70 : M65 (m + 4) = some (.inl (0, 2, .inl kp)) := by rw [← eM65, j_up_ne _ _ (by omega)]; exact h61
  have h71 : M65 (m + 5) = some (.inl (0, 2, .inl mk)) := by rw [← eM65, j_up_ne _ _ (by omega)]; exact h62
  have h72 : M65 (m + 6) = some (.inl (0, 2400, .inl (upd (upd (upd (upd (upd (upd qa (6 * z) a0) (6 * z + 1) a1) (6 * z + 2) a2) (6 * z + 3) a3) (6 * z + 4) a4) (6 * z + 5) a5))) := by rw [← eM65, j_up_ne _ _ (by omega)]; exact h64
  have h73 : M65 m = some (.inr (5, [.int w, .int sl, .int la, .int sp, .int rm, .int ln, .ref (m + 1), .ref (m + 2), .ref (m + 3), .ref (m + 4), .ref (m + 5), .ref (m + 6), .int (nI (z + 1)), .int lt, .int pr, .int tl, .int tk, .int sm, .int my, .int gr, .int rc])) := by rw [← eM65]; exact j_up_self _ _ _
  exact j_vret X hlk hr (by omega) (by omega) dX5_record_80 ⟨rfl, rfl, h73, ⟨h67, h68, h69, h70, h71, h72⟩, fun q hq => by rw [← eM65, j_up_ne _ _ (by omega), ← eM56, j_up_ne _ _ (by omega), ← eM47, j_up_ne _ _ (by omega), ← eM38, j_up_ne _ _ (by omega), ← eM29, j_up_ne _ _ (by omega), ← eM20, j_up_ne _ _ (by omega), ← eM11, j_up_ne _ _ (by omega)]⟩
set_option maxHeartbeats 800000 in
set_option maxRecDepth 100000 in
theorem c_X5_areNear (l : Launch) (D : va_G) {ty : jT} {cA : ClassId} (hI : ty[0]? = some (cA, .int)) (b0 : Nat) {M : jM} {n m : Nat} {w sl la sp rm ln qd lt pr tl tk sm my gr rc : Int32} {ft fk fv kp mk qa : Nat → Int32} (hm : M m = some (rfO m w sl la sp rm ln qd lt pr tl tk sm my gr rc)) (hr0 : RA M m ft fk fv kp mk qa) {a b : Nat} (ha : a < 400) (hb : b < 400) : Ct l D ty vwCl nwSQ b0 yX5_areNear wsX5_areNear 0 0 0 0 [.ref m, .int (nI a), .int (nI b)] M n (j_rd (.int (if fk a = fk b ∧ (ft a).toInt - (ft b).toInt ≤ sp.toInt ∧ -((ft a).toInt - (ft b).toInt) ≤ sp.toInt then 1 else 0)) M n) := by
  have hm : M m = some (.inr (5, [.int w, .int sl, .int la, .int sp, .int rm, .int ln, .ref (m + 1), .ref (m + 2), .ref (m + 3), .ref (m + 4), .ref (m + 5), .ref (m + 6), .int qd, .int lt, .int pr, .int tl, .int tk, .int sm, .int my, .int gr, .int rc])) := hm
  obtain ⟨h1, h2, h3, h4, h5, h6⟩ := id hr0
  have q1 := i_rng (ft a)
  have q2 := i_rng (ft b)
  have q3 := i_rng sp
  have hs : bigI sp.toInt := ⟨by omega, by omega⟩
  have hd : bigI ((ft a).toInt - (ft b).toInt) := ⟨by omega, by omega⟩
  have hd2 : bigI (-((ft a).toInt - (ft b).toInt)) := ⟨by omega, by omega⟩
  refine j_start (cc := cX5_areNear) (maxL := 5) (ret := (some .boolean)) (by decide) rfl [some (.ref m), some (.int (nI a)), some (.int (nI b)), none, none] (Nat.le_of_ble_eq_true rfl) rfl ?_
  intro p e s m0 below meth c X hlk hr hnm
  refine j_aload_n X 0 dX5_areNear_0 rfl rfl ?_
  refine j_get X hm rfl iwX5_areNear_X5 6 (by decide) lkX5_areNear_22 rfl dX5_areNear_1 ?_
  refine j_iload_n X 1 dX5_areNear_4 rfl rfl ?_
  refine j_iald X h1 hI (vp_in_nI (show a < 400 by omega) (by decide)) (v := ft a) (congrArg ft (nI_clamp (show a < 2 ^ 31 by omega))) dX5_areNear_5 ?_
  refine j_i2l X dX5_areNear_6 ?_
  refine j_st (st := [.long (lI (ft a).toInt)]) (by rw [l_of (ft a)]) ?_
  refine j_aload_n X 0 dX5_areNear_7 rfl rfl ?_
  refine j_get X hm rfl iwX5_areNear_X5 6 (by decide) lkX5_areNear_22 rfl dX5_areNear_8 ?_
  refine j_iload_n X 2 dX5_areNear_11 rfl rfl ?_
  refine j_iald X h1 hI (vp_in_nI (show b < 400 by omega) (by decide)) (v := ft b) (congrArg ft (nI_clamp (show b < 2 ^ 31 by omega))) dX5_areNear_12 ?_
  refine j_i2l X dX5_areNear_13 ?_
  refine j_st (st := [.long (lI (ft b).toInt), .long (lI (ft a).toInt)]) (by rw [l_of (ft b)]) ?_
  refine j_lsub X dX5_areNear_14 ?_
  refine j_st (st := [.long (lI (((ft a).toInt) - ((ft b).toInt)))]) (by rw [lI_sub]) ?_
  refine j_lstore_n X 3 dX5_areNear_15 rfl (by decide) rfl (L' := [some (.ref m), some (.int (nI a)), some (.int (nI b)), some (.long (lI (((ft a).toInt) - ((ft b).toInt)))), none]) rfl ?_
  refine j_aload_n X 0 dX5_areNear_16 rfl rfl ?_
  refine j_get X hm rfl iwX5_areNear_X5 7 (by decide) lkX5_areNear_26 rfl dX5_areNear_17 ?_
  refine j_iload_n X 1 dX5_areNear_20 rfl rfl ?_
  refine j_iald X h2 hI (vp_in_nI (show a < 400 by omega) (by decide)) (v := fk a) (congrArg fk (nI_clamp (show a < 2 ^ 31 by omega))) dX5_areNear_21 ?_
  refine j_aload_n X 0 dX5_areNear_22 rfl rfl ?_
  refine j_get X hm rfl iwX5_areNear_X5 7 (by decide) lkX5_areNear_26 rfl dX5_areNear_23 ?_
  refine j_iload_n X 2 dX5_areNear_26 rfl rfl ?_
  refine j_iald X h2 hI (vp_in_nI (show b < 400 by omega) (by decide)) (v := fk b) (congrArg fk (nI_clamp (show b < 2 ^ 31 by omega))) dX5_areNear_27 ?_
  refine j_icmp_ne X 56 dX5_areNear_28 (by decide) (fun c74 => ?_) (fun c74 => ?_)
  · skip
    refine j_iconst X dX5_areNear_56 (v := 0) (by decide) ?_
    exact j_zret X hlk hr (by omega) (by omega) (by decide) dX5_areNear_57 ⟨by rw [if_neg (fun h => c74 h.1)], rfl, rfl⟩
  · skip
    refine j_lload_n X 3 dX5_areNear_31 rfl rfl ?_
    refine j_aload_n X 0 dX5_areNear_32 rfl rfl ?_
    refine j_get X hm rfl iwX5_areNear_X5 3 (by decide) lkX5_areNear_70 rfl dX5_areNear_33 ?_
    refine j_i2l X dX5_areNear_36 ?_
    refine j_st (st := [.long (lI sp.toInt), .long (lI (((ft a).toInt) - ((ft b).toInt)))]) (by rw [l_of sp]) ?_
    refine j_lc_gt X 56 dX5_areNear_37 dX5_areNear_38 (by decide) (fun c75 => ?_) (fun c75 => ?_)
    · skip
      refine j_iconst X dX5_areNear_56 (v := 0) (by decide) ?_
      exact j_zret X hlk hr (by omega) (by omega) (by decide) dX5_areNear_57 ⟨by rw [if_neg (fun h => Int.not_lt.mpr h.2.1 ((lI_lt hs hd).mp c75))], rfl, rfl⟩
    · skip
      refine j_lload_n X 3 dX5_areNear_41 rfl rfl ?_
      refine j_lneg X dX5_areNear_42 ?_
      refine j_st (st := [.long (lI (-(((ft a).toInt) - ((ft b).toInt))))]) (by rw [lI_neg]) ?_
      refine j_aload_n X 0 dX5_areNear_43 rfl rfl ?_
      refine j_get X hm rfl iwX5_areNear_X5 3 (by decide) lkX5_areNear_70 rfl dX5_areNear_44 ?_
      refine j_i2l X dX5_areNear_47 ?_
      refine j_st (st := [.long (lI sp.toInt), .long (lI (-(((ft a).toInt) - ((ft b).toInt))))]) (by rw [l_of sp]) ?_
      refine j_lc_gt X 56 dX5_areNear_48 dX5_areNear_49 (by decide) (fun c76 => ?_) (fun c76 => ?_)
      · skip
        refine j_iconst X dX5_areNear_56 (v := 0) (by decide) ?_
        exact j_zret X hlk hr (by omega) (by omega) (by decide) dX5_areNear_57 ⟨by rw [if_neg (fun h => Int.not_lt.mpr h.2.2 ((lI_lt hs hd2).mp c76))], rfl, rfl⟩
      · skip
        refine j_iconst X dX5_areNear_52 (v := 1) (by decide) ?_
        refine j_goto X 57 dX5_areNear_53 (by decide) ?_
        exact j_zret X hlk hr (by omega) (by omega) (by decide) dX5_areNear_57 ⟨by rw [if_pos ⟨c74, Int.not_lt.mp (fun q => c75 ((lI_lt hs hd).mpr q)), Int.not_lt.mp (fun q => c76 ((lI_lt hs hd2).mpr q))⟩], rfl, rfl⟩
set_option maxHeartbeats 800000 in
set_option maxRecDepth 100000 in
theorem c_X5_forget (l : Launch) (D : va_G) {ty : jT} {cA : ClassId} (hI : ty[0]? = some (cA, .int)) (b0 : Nat) {M : jM} {n m : Nat} {w sl la sp rm ln qd lt pr tl tk sm my gr rc : Int32} {ft fk fv kp mk qa : Nat → Int32} (hm : M m = some (rfO m w sl la sp rm ln qd lt pr tl tk sm my gr rc)) (hr0 : RA M m ft fk fv kp mk qa) : Ct l D ty vwCl nwSQ b0 yX5_forget wsX5_forget 0 0 0 0 [.ref m] M n (fun r M' n' => r = none ∧ n = n' ∧ M' m = some (rfO m w sl la sp rm ln 0 0 0 0 0 sm my gr rc) ∧ RA M' m ft fk fv (upd (upd kp 0 0) 1 0) (upd (upd mk 0 (-2000000000)) 1 (-2000000000)) qa ∧ ∀ q, (q < m ∨ m + 6 < q) → M' q = M q) := by
  have hm : M m = some (.inr (5, [.int w, .int sl, .int la, .int sp, .int rm, .int ln, .ref (m + 1), .ref (m + 2), .ref (m + 3), .ref (m + 4), .ref (m + 5), .ref (m + 6), .int qd, .int lt, .int pr, .int tl, .int tk, .int sm, .int my, .int gr, .int rc])) := hm
  obtain ⟨h1, h2, h3, h4, h5, h6⟩ := id hr0
  refine j_start (cc := cX5_forget) (maxL := 1) (ret := none) (by decide) rfl [some (.ref m)] (Nat.le_of_ble_eq_true rfl) rfl ?_
  intro p e s m0 below meth c X hlk hr hnm
  refine j_aload_n X 0 dX5_forget_0 rfl rfl ?_
  refine j_get X hm rfl iwX5_forget_X5 9 (by decide) lkX5_forget_32 rfl dX5_forget_1 ?_
  refine j_iconst X dX5_forget_4 (v := 0) (by decide) ?_
  refine j_iconst X dX5_forget_5 (v := 0) (by decide) ?_
  refine j_iast X h4 hI (vp_in_nI (n := 0) (by decide) (by decide)) dX5_forget_6 ?_
  rw [show (0 : Int32).toNatClampNeg = 0 from by decide]
  generalize eM77 : j_up M (m + 4) (.inl (0, 2, .inl (upd kp 0 0))) = M77
  have h78 : M77 m = some (.inr (5, [.int w, .int sl, .int la, .int sp, .int rm, .int ln, .ref (m + 1), .ref (m + 2), .ref (m + 3), .ref (m + 4), .ref (m + 5), .ref (m + 6), .int qd, .int lt, .int pr, .int tl, .int tk, .int sm, .int my, .int gr, .int rc])) := by rw [← eM77, j_up_ne _ _ (by omega)]; exact hm
  have h79 : M77 (m + 1) = some (.inl (0, 400, .inl ft)) := by rw [← eM77, j_up_ne _ _ (by omega)]; exact h1
  have h80 : M77 (m + 2) = some (.inl (0, 400, .inl fk)) := by rw [← eM77, j_up_ne _ _ (by omega)]; exact h2
  have h81 : M77 (m + 3) = some (.inl (0, 400, .inl fv)) := by rw [← eM77, j_up_ne _ _ (by omega)]; exact h3
  have h83 : M77 (m + 5) = some (.inl (0, 2, .inl mk)) := by rw [← eM77, j_up_ne _ _ (by omega)]; exact h5
  have h84 : M77 (m + 6) = some (.inl (0, 2400, .inl qa)) := by rw [← eM77, j_up_ne _ _ (by omega)]; exact h6
  have h85 : M77 (m + 4) = some (.inl (0, 2, .inl (upd kp 0 0))) := by rw [← eM77]; exact j_up_self _ _ _
  refine j_aload_n X 0 dX5_forget_7 rfl rfl ?_
  refine j_get X h78 rfl iwX5_forget_X5 9 (by decide) lkX5_forget_32 rfl dX5_forget_8 ?_
  refine j_iconst X dX5_forget_11 (v := 1) (by decide) ?_
  refine j_iconst X dX5_forget_12 (v := 0) (by decide) ?_
  refine j_iast X h85 hI (vp_in_nI (n := 1) (by decide) (by decide)) dX5_forget_13 ?_
  rw [show (1 : Int32).toNatClampNeg = 1 from by decide]
  generalize eM86 : j_up M77 (m + 4) (.inl (0, 2, .inl (upd (upd kp 0 0) 1 0))) = M86
  have h87 : M86 m = some (.inr (5, [.int w, .int sl, .int la, .int sp, .int rm, .int ln, .ref (m + 1), .ref (m + 2), .ref (m + 3), .ref (m + 4), .ref (m + 5), .ref (m + 6), .int qd, .int lt, .int pr, .int tl, .int tk, .int sm, .int my, .int gr, .int rc])) := by rw [← eM86, j_up_ne _ _ (by omega)]; exact h78
  have h88 : M86 (m + 1) = some (.inl (0, 400, .inl ft)) := by rw [← eM86, j_up_ne _ _ (by omega)]; exact h79
  have h89 : M86 (m + 2) = some (.inl (0, 400, .inl fk)) := by rw [← eM86, j_up_ne _ _ (by omega)]; exact h80
  have h90 : M86 (m + 3) = some (.inl (0, 400, .inl fv)) := by rw [← eM86, j_up_ne _ _ (by omega)]; exact h81
  have h91 : M86 (m + 5) = some (.inl (0, 2, .inl mk)) := by rw [← eM86, j_up_ne _ _ (by omega)]; exact h83
  have h92 : M86 (m + 6) = some (.inl (0, 2400, .inl qa)) := by rw [← eM86, j_up_ne _ _ (by omega)]; exact h84
  have h94 : M86 (m + 4) = some (.inl (0, 2, .inl (upd (upd kp 0 0) 1 0))) := by rw [← eM86]; exact j_up_self _ _ _
  refine j_aload_n X 0 dX5_forget_14 rfl rfl ?_
  refine j_get X h87 rfl iwX5_forget_X5 10 (by decide) lkX5_forget_35 rfl dX5_forget_15 ?_
  refine j_iconst X dX5_forget_18 (v := 0) (by decide) ?_
  refine j_ldc X dX5_forget_19 wdX5_forget_c44 ?_
  refine j_iast X h91 hI (vp_in_nI (n := 0) (by decide) (by decide)) dX5_forget_21 ?_
  rw [show (0 : Int32).toNatClampNeg = 0 from by decide]
  generalize eM95 : j_up M86 (m + 5) (.inl (0, 2, .inl (upd mk 0 (-2000000000)))) = M95
  have h96 : M95 m = some (.inr (5, [.int w, .int sl, .int la, .int sp, .int rm, .int ln, .ref (m + 1), .ref (m + 2), .ref (m + 3), .ref (m + 4), .ref (m + 5), .ref (m + 6), .int qd, .int lt, .int pr, .int tl, .int tk, .int sm, .int my, .int gr, .int rc])) := by rw [← eM95, j_up_ne _ _ (by omega)]; exact h87
  have h97 : M95 (m + 1) = some (.inl (0, 400, .inl ft)) := by rw [← eM95, j_up_ne _ _ (by omega)]; exact h88
  have h98 : M95 (m + 2) = some (.inl (0, 400, .inl fk)) := by rw [← eM95, j_up_ne _ _ (by omega)]; exact h89
  have h99 : M95 (m + 3) = some (.inl (0, 400, .inl fv)) := by rw [← eM95, j_up_ne _ _ (by omega)]; exact h90
  have h101 : M95 (m + 6) = some (.inl (0, 2400, .inl qa)) := by rw [← eM95, j_up_ne _ _ (by omega)]; exact h92
  have h102 : M95 (m + 4) = some (.inl (0, 2, .inl (upd (upd kp 0 0) 1 0))) := by rw [← eM95, j_up_ne _ _ (by omega)]; exact h94
  have h103 : M95 (m + 5) = some (.inl (0, 2, .inl (upd mk 0 (-2000000000)))) := by rw [← eM95]; exact j_up_self _ _ _
  refine j_aload_n X 0 dX5_forget_22 rfl rfl ?_
  refine j_get X h96 rfl iwX5_forget_X5 10 (by decide) lkX5_forget_35 rfl dX5_forget_23 ?_
  refine j_iconst X dX5_forget_26 (v := 1) (by decide) ?_
  refine j_ldc X dX5_forget_27 wdX5_forget_c44 ?_
  refine j_iast X h103 hI (vp_in_nI (n := 1) (by decide) (by decide)) dX5_forget_29 ?_
  rw [show (1 : Int32).toNatClampNeg = 1 from by decide]
  generalize eM104 : j_up M95 (m + 5) (.inl (0, 2, .inl (upd (upd mk 0 (-2000000000)) 1 (-2000000000)))) = M104
  have h105 : M104 m = some (.inr (5, [.int w, .int sl, .int la, .int sp, .int rm, .int ln, .ref (m + 1), .ref (m + 2), .ref (m + 3), .ref (m + 4), .ref (m + 5), .ref (m + 6), .int qd, .int lt, .int pr, .int tl, .int tk, .int sm, .int my, .int gr, .int rc])) := by rw [← eM104, j_up_ne _ _ (by omega)]; exact h96
  have h106 : M104 (m + 1) = some (.inl (0, 400, .inl ft)) := by rw [← eM104, j_up_ne _ _ (by omega)]; exact h97
  have h107 : M104 (m + 2) = some (.inl (0, 400, .inl fk)) := by rw [← eM104, j_up_ne _ _ (by omega)]; exact h98
  have h108 : M104 (m + 3) = some (.inl (0, 400, .inl fv)) := by rw [← eM104, j_up_ne _ _ (by omega)]; exact h99
  have h109 : M104 (m + 6) = some (.inl (0, 2400, .inl qa)) := by rw [← eM104, j_up_ne _ _ (by omega)]; exact h101
  have h110 : M104 (m + 4) = some (.inl (0, 2, .inl (upd (upd kp 0 0) 1 0))) := by rw [← eM104, j_up_ne _ _ (by omega)]; exact h102
  have h112 : M104 (m + 5) = some (.inl (0, 2, .inl (upd (upd mk 0 (-2000000000)) 1 (-2000000000)))) := by rw [← eM104]; exact j_up_self _ _ _
  refine j_aload_n X 0 dX5_forget_30 rfl rfl ?_
  refine j_iconst X dX5_forget_31 (v := 0) (by decide) ?_
  refine j_put X h105 rfl iwX5_forget_X5 tyX5 tyX5_ok nmX5 12 (by decide) lkX5_forget_45 rfl rfl rfl (Nat.le_of_ble_eq_true rfl) (fs' := [.int w, .int sl, .int la, .int sp, .int rm, .int ln, .ref (m + 1), .ref (m + 2), .ref (m + 3), .ref (m + 4), .ref (m + 5), .ref (m + 6), .int 0, .int lt, .int pr, .int tl, .int tk, .int sm, .int my, .int gr, .int rc]) rfl dX5_forget_32 ?_
  generalize eM113 : j_up M104 m (.inr (5, [.int w, .int sl, .int la, .int sp, .int rm, .int ln, .ref (m + 1), .ref (m + 2), .ref (m + 3), .ref (m + 4), .ref (m + 5), .ref (m + 6), .int 0, .int lt, .int pr, .int tl, .int tk, .int sm, .int my, .int gr, .int rc])) = M113
  have h115 : M113 (m + 1) = some (.inl (0, 400, .inl ft)) := by rw [← eM113, j_up_ne _ _ (by omega)]; exact h106
  have h116 : M113 (m + 2) = some (.inl (0, 400, .inl fk)) := by rw [← eM113, j_up_ne _ _ (by omega)]; exact h107
  have h117 : M113 (m + 3) = some (.inl (0, 400, .inl fv)) := by rw [← eM113, j_up_ne _ _ (by omega)]; exact h108
  have h118 : M113 (m + 6) = some (.inl (0, 2400, .inl qa)) := by rw [← eM113, j_up_ne _ _ (by omega)]; exact h109
  have h119 : M113 (m + 4) = some (.inl (0, 2, .inl (upd (upd kp 0 0) 1 0))) := by rw [← eM113, j_up_ne _ _ (by omega)]; exact h110
  have h120 : M113 (m + 5) = some (.inl (0, 2, .inl (upd (upd mk 0 (-2000000000)) 1 (-2000000000)))) := by rw [← eM113, j_up_ne _ _ (by omega)]; exact h112
  have h121 : M113 m = some (.inr (5, [.int w, .int sl, .int la, .int sp, .int rm, .int ln, .ref (m + 1), .ref (m + 2), .ref (m + 3), .ref (m + 4), .ref (m + 5), .ref (m + 6), .int 0, .int lt, .int pr, .int tl, .int tk, .int sm, .int my, .int gr, .int rc])) := by rw [← eM113]; exact j_up_self _ _ _
  refine j_aload_n X 0 dX5_forget_35 rfl rfl ?_
  refine j_iconst X dX5_forget_36 (v := 0) (by decide) ?_
  refine j_put X h121 rfl iwX5_forget_X5 tyX5 tyX5_ok nmX5 13 (by decide) lkX5_forget_48 rfl rfl rfl (Nat.le_of_ble_eq_true rfl) (fs' := [.int w, .int sl, .int la, .int sp, .int rm, .int ln, .ref (m + 1), .ref (m + 2), .ref (m + 3), .ref (m + 4), .ref (m + 5), .ref (m + 6), .int 0, .int 0, .int pr, .int tl, .int tk, .int sm, .int my, .int gr, .int rc]) rfl dX5_forget_37 ?_
  generalize eM122 : j_up M113 m (.inr (5, [.int w, .int sl, .int la, .int sp, .int rm, .int ln, .ref (m + 1), .ref (m + 2), .ref (m + 3), .ref (m + 4), .ref (m + 5), .ref (m + 6), .int 0, .int 0, .int pr, .int tl, .int tk, .int sm, .int my, .int gr, .int rc])) = M122
  have h123 : M122 (m + 1) = some (.inl (0, 400, .inl ft)) := by rw [← eM122, j_up_ne _ _ (by omega)]; exact h115
  have h124 : M122 (m + 2) = some (.inl (0, 400, .inl fk)) := by rw [← eM122, j_up_ne _ _ (by omega)]; exact h116
  have h125 : M122 (m + 3) = some (.inl (0, 400, .inl fv)) := by rw [← eM122, j_up_ne _ _ (by omega)]; exact h117
  have h126 : M122 (m + 6) = some (.inl (0, 2400, .inl qa)) := by rw [← eM122, j_up_ne _ _ (by omega)]; exact h118
  have h127 : M122 (m + 4) = some (.inl (0, 2, .inl (upd (upd kp 0 0) 1 0))) := by rw [← eM122, j_up_ne _ _ (by omega)]; exact h119
  have h128 : M122 (m + 5) = some (.inl (0, 2, .inl (upd (upd mk 0 (-2000000000)) 1 (-2000000000)))) := by rw [← eM122, j_up_ne _ _ (by omega)]; exact h120
  have h130 : M122 m = some (.inr (5, [.int w, .int sl, .int la, .int sp, .int rm, .int ln, .ref (m + 1), .ref (m + 2), .ref (m + 3), .ref (m + 4), .ref (m + 5), .ref (m + 6), .int 0, .int 0, .int pr, .int tl, .int tk, .int sm, .int my, .int gr, .int rc])) := by rw [← eM122]; exact j_up_self _ _ _
  refine j_aload_n X 0 dX5_forget_40 rfl rfl ?_
  refine j_iconst X dX5_forget_41 (v := 0) (by decide) ?_
  refine j_put X h130 rfl iwX5_forget_X5 tyX5 tyX5_ok nmX5 14 (by decide) lkX5_forget_51 rfl rfl rfl (Nat.le_of_ble_eq_true rfl) (fs' := [.int w, .int sl, .int la, .int sp, .int rm, .int ln, .ref (m + 1), .ref (m + 2), .ref (m + 3), .ref (m + 4), .ref (m + 5), .ref (m + 6), .int 0, .int 0, .int 0, .int tl, .int tk, .int sm, .int my, .int gr, .int rc]) rfl dX5_forget_42 ?_
  generalize eM131 : j_up M122 m (.inr (5, [.int w, .int sl, .int la, .int sp, .int rm, .int ln, .ref (m + 1), .ref (m + 2), .ref (m + 3), .ref (m + 4), .ref (m + 5), .ref (m + 6), .int 0, .int 0, .int 0, .int tl, .int tk, .int sm, .int my, .int gr, .int rc])) = M131
  have h132 : M131 (m + 1) = some (.inl (0, 400, .inl ft)) := by rw [← eM131, j_up_ne _ _ (by omega)]; exact h123
  have h133 : M131 (m + 2) = some (.inl (0, 400, .inl fk)) := by rw [← eM131, j_up_ne _ _ (by omega)]; exact h124
  have h134 : M131 (m + 3) = some (.inl (0, 400, .inl fv)) := by rw [← eM131, j_up_ne _ _ (by omega)]; exact h125
  have h135 : M131 (m + 6) = some (.inl (0, 2400, .inl qa)) := by rw [← eM131, j_up_ne _ _ (by omega)]; exact h126
  have h136 : M131 (m + 4) = some (.inl (0, 2, .inl (upd (upd kp 0 0) 1 0))) := by rw [← eM131, j_up_ne _ _ (by omega)]; exact h127
  have h137 : M131 (m + 5) = some (.inl (0, 2, .inl (upd (upd mk 0 (-2000000000)) 1 (-2000000000)))) := by rw [← eM131, j_up_ne _ _ (by omega)]; exact h128
  have h139 : M131 m = some (.inr (5, [.int w, .int sl, .int la, .int sp, .int rm, .int ln, .ref (m + 1), .ref (m + 2), .ref (m + 3), .ref (m + 4), .ref (m + 5), .ref (m + 6), .int 0, .int 0, .int 0, .int tl, .int tk, .int sm, .int my, .int gr, .int rc])) := by rw [← eM131]; exact j_up_self _ _ _
  refine j_aload_n X 0 dX5_forget_45 rfl rfl ?_
  refine j_iconst X dX5_forget_46 (v := 0) (by decide) ?_
  refine j_put X h139 rfl iwX5_forget_X5 tyX5 tyX5_ok nmX5 15 (by decide) lkX5_forget_54 rfl rfl rfl (Nat.le_of_ble_eq_true rfl) (fs' := [.int w, .int sl, .int la, .int sp, .int rm, .int ln, .ref (m + 1), .ref (m + 2), .ref (m + 3), .ref (m + 4), .ref (m + 5), .ref (m + 6), .int 0, .int 0, .int 0, .int 0, .int tk, .int sm, .int my, .int gr, .int rc]) rfl dX5_forget_47 ?_
  generalize eM140 : j_up M131 m (.inr (5, [.int w, .int sl, .int la, .int sp, .int rm, .int ln, .ref (m + 1), .ref (m + 2), .ref (m + 3), .ref (m + 4), .ref (m + 5), .ref (m + 6), .int 0, .int 0, .int 0, .int 0, .int tk, .int sm, .int my, .int gr, .int rc])) = M140
  have h141 : M140 (m + 1) = some (.inl (0, 400, .inl ft)) := by rw [← eM140, j_up_ne _ _ (by omega)]; exact h132
  have h142 : M140 (m + 2) = some (.inl (0, 400, .inl fk)) := by rw [← eM140, j_up_ne _ _ (by omega)]; exact h133
  have h143 : M140 (m + 3) = some (.inl (0, 400, .inl fv)) := by rw [← eM140, j_up_ne _ _ (by omega)]; exact h134
  have h144 : M140 (m + 6) = some (.inl (0, 2400, .inl qa)) := by rw [← eM140, j_up_ne _ _ (by omega)]; exact h135
  have h145 : M140 (m + 4) = some (.inl (0, 2, .inl (upd (upd kp 0 0) 1 0))) := by rw [← eM140, j_up_ne _ _ (by omega)]; exact h136
  have h146 : M140 (m + 5) = some (.inl (0, 2, .inl (upd (upd mk 0 (-2000000000)) 1 (-2000000000)))) := by rw [← eM140, j_up_ne _ _ (by omega)]; exact h137
  have h148 : M140 m = some (.inr (5, [.int w, .int sl, .int la, .int sp, .int rm, .int ln, .ref (m + 1), .ref (m + 2), .ref (m + 3), .ref (m + 4), .ref (m + 5), .ref (m + 6), .int 0, .int 0, .int 0, .int 0, .int tk, .int sm, .int my, .int gr, .int rc])) := by rw [← eM140]; exact j_up_self _ _ _
  refine j_aload_n X 0 dX5_forget_50 rfl rfl ?_
  refine j_iconst X dX5_forget_51 (v := 0) (by decide) ?_
  refine j_put X h148 rfl iwX5_forget_X5 tyX5 tyX5_ok nmX5 16 (by decide) lkX5_forget_57 rfl rfl rfl (Nat.le_of_ble_eq_true rfl) (fs' := [.int w, .int sl, .int la, .int sp, .int rm, .int ln, .ref (m + 1), .ref (m + 2), .ref (m + 3), .ref (m + 4), .ref (m + 5), .ref (m + 6), .int 0, .int 0, .int 0, .int 0, .int 0, .int sm, .int my, .int gr, .int rc]) rfl dX5_forget_52 ?_
  generalize eM149 : j_up M140 m (.inr (5, [.int w, .int sl, .int la, .int sp, .int rm, .int ln, .ref (m + 1), .ref (m + 2), .ref (m + 3), .ref (m + 4), .ref (m + 5), .ref (m + 6), .int 0, .int 0, .int 0, .int 0, .int 0, .int sm, .int my, .int gr, .int rc])) = M149
  have h150 : M149 (m + 1) = some (.inl (0, 400, .inl ft)) := by rw [← eM149, j_up_ne _ _ (by omega)]; exact h141
  have h151 : M149 (m + 2) = some (.inl (0, 400, .inl fk)) := by rw [← eM149, j_up_ne _ _ (by omega)]; exact h142
  have h152 : M149 (m + 3) = some (.inl (0, 400, .inl fv)) := by rw [← eM149, j_up_ne _ _ (by omega)]; exact h143
  have h153 : M149 (m + 6) = some (.inl (0, 2400, .inl qa)) := by rw [← eM149, j_up_ne _ _ (by omega)]; exact h144
  have h154 : M149 (m + 4) = some (.inl (0, 2, .inl (upd (upd kp 0 0) 1 0))) := by rw [← eM149, j_up_ne _ _ (by omega)]; exact h145
  have h155 : M149 (m + 5) = some (.inl (0, 2, .inl (upd (upd mk 0 (-2000000000)) 1 (-2000000000)))) := by rw [← eM149, j_up_ne _ _ (by omega)]; exact h146
  have h157 : M149 m = some (.inr (5, [.int w, .int sl, .int la, .int sp, .int rm, .int ln, .ref (m + 1), .ref (m + 2), .ref (m + 3), .ref (m + 4), .ref (m + 5), .ref (m + 6), .int 0, .int 0, .int 0, .int 0, .int 0, .int sm, .int my, .int gr, .int rc])) := by rw [← eM149]; exact j_up_self _ _ _
  exact j_vret X hlk hr (by omega) (by omega) dX5_forget_55 ⟨rfl, rfl, h157, ⟨h150, h151, h152, h154, h155, h153⟩, fun q hq => by rw [← eM149, j_up_ne _ _ (by omega), ← eM140, j_up_ne _ _ (by omega), ← eM131, j_up_ne _ _ (by omega), ← eM122, j_up_ne _ _ (by omega), ← eM113, j_up_ne _ _ (by omega), ← eM104, j_up_ne _ _ (by omega), ← eM95, j_up_ne _ _ (by omega), ← eM86, j_up_ne _ _ (by omega), ← eM77, j_up_ne _ _ (by omega)]⟩
