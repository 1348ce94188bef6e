set_option maxHeartbeats 800000 in
set_option maxRecDepth 100000 in
theorem c_X4_isTime (l : Launch) (D : va_G) {ty : jT} {cA : ClassId} (hI : ty[0]? = some (cA, .int)) (b0 : Nat) {M : jM} {n : Nat} (t : Int32) : Ct l D ty vwCl nwSQ b0 yX4_isTime wsX4_isTime 1 22 0 0 [.int t] M n (j_rd (.int (if -1000000000 ≤ t ∧ t ≤ 1000000000 then 1 else 0)) M n) := by
  refine j_start (cc := cX4_isTime) (maxL := 1) (ret := (some .boolean)) (by decide) rfl [some (.int t)] (Nat.le_of_ble_eq_true rfl) rfl ?_
  intro p e s m below meth c X hlk hr hnm
  refine j_iload_n X 0 dX4_isTime_0 rfl rfl ?_
  refine j_ldc X dX4_isTime_1 wdX4_isTime_c168 ?_
  refine j_ldc X dX4_isTime_3 wdX4_isTime_c169 ?_
  refine j_callS X nwSQ_ok (As := [.int t, .int (-1000000000), .int 1000000000]) (rest := []) rfl (c_X4_isWithin l D hI b0 t (-1000000000) 1000000000) rfl gX4_isTime_X4_isWithin ddX4_isWithin ⟨Nat.le_of_ble_eq_true rfl, Nat.le_of_ble_eq_true rfl⟩ (Nat.le_of_ble_eq_true rfl) rfl dX4_isTime_5 ⟨(by show 0 + 0 ≤ 0; omega), (by show 0 + 0 ≤ 0; omega)⟩ (fun r1 M2 n3 hr4 => ?_)
  obtain ⟨rfl, rfl, rfl⟩ := hr4
  refine j_st (st := [.int (if (-1000000000) ≤ t ∧ t ≤ 1000000000 then 1 else 0)]) rfl ?_
  exact j_zret X hlk hr (by omega) (by omega) (by split <;> rfl) dX4_isTime_8 ⟨rfl, rfl, rfl⟩
set_option maxHeartbeats 800000 in
set_option maxRecDepth 100000 in
theorem c_X4_mark (l : Launch) (D : va_G) {ty : jT} {cA : ClassId} (hI : ty[0]? = some (cA, .int)) (b0 : Nat) {M : jM} {n x : Nat} {w sl la sp rm ln mA mB lt pr tl tk : Int32} (hx : M x = some (sqO x w sl la sp rm ln mA mB lt pr tl tk)) : Ct l D ty vwCl nwSQ b0 yX4_mark wsX4_mark 1 21 0 0 [.ref x] M n (j_rd (.int (mn mA mB)) M n) := by
  have hx : M x = some (.inr (4, [.ref (x + 1), .ref (x + 5), .ref (x + 9), .ref (x + 11), .int w, .int sl, .int la, .int sp, .int rm, .int ln, .int mA, .int mB, .int lt, .int pr, .int tl, .int tk])) := hx
  refine j_start (cc := cX4_mark) (maxL := 1) (ret := (some .int)) (by decide) rfl [some (.ref x)] (Nat.le_of_ble_eq_true rfl) rfl ?_
  intro p e s m below meth c X hlk hr hnm
  refine j_aload_n X 0 dX4_mark_0 rfl rfl ?_
  refine j_get X hx rfl iwX4_mark_X4 10 (by decide) lkX4_mark_97 rfl dX4_mark_1 ?_
  refine j_aload_n X 0 dX4_mark_4 rfl rfl ?_
  refine j_get X hx rfl iwX4_mark_X4 11 (by decide) lkX4_mark_104 rfl dX4_mark_5 ?_
  refine j_min X wdX4_mark_mmin0 wdX4_mark_mmin1 wdX4_mark_mmin2 wdX4_mark_mmin3 (Nat.le_of_ble_eq_true rfl) (Nat.le_of_ble_eq_true rfl) (by omega) (by omega) dX4_mark_8 ?_
  exact j_iret X hlk hr (by omega) (by omega) dX4_mark_11 ⟨rfl, rfl, rfl⟩
set_option maxHeartbeats 800000 in
set_option maxRecDepth 100000 in
theorem c_X4_areWindows (l : Launch) (D : va_G) {ty : jT} {cA : ClassId} (hI : ty[0]? = some (cA, .int)) (b0 : Nat) {M : jM} {n : Nat} (w sl : Int32) : Ct l D ty vwCl nwSQ b0 yX4_areWindows wsX4_areWindows 1 22 0 0 [.int w, .int sl] M n (j_rd (.int (if (1 ≤ w ∧ w ≤ 1000000) ∧ (1 ≤ sl ∧ sl ≤ w) ∧ w ≤ 16 * sl then 1 else 0)) M n) := by
  refine j_start (cc := cX4_areWindows) (maxL := 2) (ret := (some .boolean)) (by decide) rfl [some (.int w), some (.int sl)] (Nat.le_of_ble_eq_true rfl) rfl ?_
  intro p e s m below meth c X hlk hr hnm
  refine j_iload_n X 0 dX4_areWindows_0 rfl rfl ?_
  refine j_iconst X dX4_areWindows_1 (v := 1) (by decide) ?_
  refine j_ldc X dX4_areWindows_2 wdX4_areWindows_c59 ?_
  refine j_callS X nwSQ_ok (As := [.int w, .int 1, .int 1000000]) (rest := []) rfl (c_X4_isWithin l D hI b0 w 1 1000000) rfl gX4_areWindows_X4_isWithin ddX4_isWithin ⟨Nat.le_of_ble_eq_true rfl, Nat.le_of_ble_eq_true rfl⟩ (Nat.le_of_ble_eq_true rfl) rfl dX4_areWindows_4 ⟨(by show 0 + 0 ≤ 0; omega), (by show 0 + 0 ≤ 0; omega)⟩ (fun r5 M6 n7 hr8 => ?_)
  obtain ⟨rfl, rfl, rfl⟩ := hr8
  refine j_st (st := [.int (if 1 ≤ w ∧ w ≤ 1000000 then 1 else 0)]) rfl ?_
  refine j_if_eq X 31 dX4_areWindows_7 (by decide) (fun c9 => ?_) (fun c9 => ?_)
  · skip
    refine j_iconst X dX4_areWindows_31 (v := 0) (by decide) ?_
    exact j_zret X hlk hr (by omega) (by omega) (by decide) dX4_areWindows_32 ⟨congrArg (fun z => some (Value.int z)) (zo_0 (fun h => zo_eq.mp c9 h.1)).symm, rfl, rfl⟩
  · skip
    refine j_iload_n X 1 dX4_areWindows_10 rfl rfl ?_
    refine j_iconst X dX4_areWindows_11 (v := 1) (by decide) ?_
    refine j_iload_n X 0 dX4_areWindows_12 rfl rfl ?_
    refine j_callS X nwSQ_ok (As := [.int sl, .int 1, .int w]) (rest := []) rfl (c_X4_isWithin l D hI b0 sl 1 w) rfl gX4_areWindows_X4_isWithin ddX4_isWithin ⟨Nat.le_of_ble_eq_true rfl, Nat.le_of_ble_eq_true rfl⟩ (Nat.le_of_ble_eq_true rfl) rfl dX4_areWindows_13 ⟨(by show 0 + 0 ≤ 0; omega), (by show 0 + 0 ≤ 0; omega)⟩ (fun r10 M11 n12 hr13 => ?_)
    obtain ⟨rfl, rfl, rfl⟩ := hr13
    refine j_st (st := [.int (if 1 ≤ sl ∧ sl ≤ w then 1 else 0)]) rfl ?_
    refine j_if_eq X 31 dX4_areWindows_16 (by decide) (fun c14 => ?_) (fun c14 => ?_)
    · skip
      refine j_iconst X dX4_areWindows_31 (v := 0) (by decide) ?_
      exact j_zret X hlk hr (by omega) (by omega) (by decide) dX4_areWindows_32 ⟨congrArg (fun z => some (Value.int z)) (zo_0 (fun h => zo_eq.mp c14 h.2.1)).symm, rfl, rfl⟩
    · skip
      refine j_iload_n X 0 dX4_areWindows_19 rfl rfl ?_
      refine j_bipush X dX4_areWindows_20 (v := 16) (by decide) ?_
      refine j_iload_n X 1 dX4_areWindows_22 rfl rfl ?_
      refine j_imul X dX4_areWindows_23 ?_
      refine j_icmp_gt X 31 dX4_areWindows_24 (by decide) (fun c15 => ?_) (fun c15 => ?_)
      · skip
        refine j_iconst X dX4_areWindows_31 (v := 0) (by decide) ?_
        exact j_zret X hlk hr (by omega) (by omega) (by decide) dX4_areWindows_32 ⟨congrArg (fun z => some (Value.int z)) (zo_0 (fun h => Int32.not_lt.mpr h.2.2 c15)).symm, rfl, rfl⟩
      · skip
        refine j_iconst X dX4_areWindows_27 (v := 1) (by decide) ?_
        refine j_goto X 32 dX4_areWindows_28 (by decide) ?_
        exact j_zret X hlk hr (by omega) (by omega) (by decide) dX4_areWindows_32 ⟨congrArg (fun z => some (Value.int z)) (zo_1 ⟨zo_ne.mp c9, zo_ne.mp c14, Int32.not_lt.mp c15⟩).symm, rfl, rfl⟩
set_option maxHeartbeats 800000 in
set_option maxRecDepth 100000 in
theorem c_J9_floorDiv (l : Launch) (D : va_G) {ty : jT} {cA : ClassId} (hI : ty[0]? = some (cA, .int)) (b0 : Nat) {M : jM} {n : Nat} (a b : Int32) (hnz : ¬ b = 0) : Ct l D ty vwCl nwSQ b0 yJ9_floorDiv_7cf53 wsJ9_floorDiv_7cf53 0 0 0 0 [.int a, .int b] M n (j_rd (.int (fd a b)) M n) := by
  refine j_startF (cc := cJ9_floorDiv_7cf53) (maxL := 3) (ret := (some .int)) (by decide +kernel) rfl [some (.int a), some (.int b), none] (Nat.le_of_ble_eq_true rfl) rfl ?_
  intro p e s m below meth c X hlk hr hnm
  refine j_iload_n X 0 dJ9_floorDiv_7cf53_0 rfl rfl ?_
  refine j_iload_n X 1 dJ9_floorDiv_7cf53_1 rfl rfl ?_
  refine j_idiv X dJ9_floorDiv_7cf53_2 hnz ?_
  refine j_istore_n X 2 dJ9_floorDiv_7cf53_3 rfl (by decide) rfl (L' := [some (.int a), some (.int b), some (.int (a / b))]) rfl ?_
  refine j_iload_n X 0 dJ9_floorDiv_7cf53_4 rfl rfl ?_
  refine j_iload_n X 1 dJ9_floorDiv_7cf53_5 rfl rfl ?_
  refine j_ixor X dJ9_floorDiv_7cf53_6 ?_
  refine j_if_ge X 21 dJ9_floorDiv_7cf53_7 (by decide) (fun c16 => ?_) (fun c16 => ?_)
  · skip
    refine j_iload_n X 2 dJ9_floorDiv_7cf53_21 rfl rfl ?_
    exact j_iret X hlk hr (by omega) (by omega) dJ9_floorDiv_7cf53_22 ⟨by unfold fd; rw [if_pos c16], rfl, rfl⟩
  · skip
    refine j_iload_n X 2 dJ9_floorDiv_7cf53_10 rfl rfl ?_
    refine j_iload_n X 1 dJ9_floorDiv_7cf53_11 rfl rfl ?_
    refine j_imul X dJ9_floorDiv_7cf53_12 ?_
    refine j_iload_n X 0 dJ9_floorDiv_7cf53_13 rfl rfl ?_
    refine j_icmp_eq X 21 dJ9_floorDiv_7cf53_14 (by decide) (fun c17 => ?_) (fun c17 => ?_)
    · skip
      refine j_iload_n X 2 dJ9_floorDiv_7cf53_21 rfl rfl ?_
      exact j_iret X hlk hr (by omega) (by omega) dJ9_floorDiv_7cf53_22 ⟨by unfold fd; rw [if_neg c16, if_pos c17], rfl, rfl⟩
    · skip
      refine j_iload_n X 2 dJ9_floorDiv_7cf53_17 rfl rfl ?_
      refine j_iconst X dJ9_floorDiv_7cf53_18 (v := 1) (by decide) ?_
      refine j_isub X dJ9_floorDiv_7cf53_19 ?_
      exact j_iret X hlk hr (by omega) (by omega) dJ9_floorDiv_7cf53_20 ⟨by unfold fd; rw [if_neg c16, if_neg c17], rfl, rfl⟩
set_option maxHeartbeats 800000 in
set_option maxRecDepth 100000 in
theorem c_X4_beginningAbove (l : Launch) (D : va_G) {ty : jT} {cA : ClassId} (hI : ty[0]? = some (cA, .int)) (b0 : Nat) {M : jM} {n x : Nat} {w sl la sp rm ln mA mB lt pr tl tk : Int32} (hx : M x = some (sqO x w sl la sp rm ln mA mB lt pr tl tk)) (hsl : 1 ≤ sl) (t : Int32) : Ct l D ty vwCl nwSQ b0 yX4_beginningAbove wsX4_beginningAbove 1 22 0 0 [.ref x, .int t] M n (j_rd (.int ((fd t sl + 1) * sl)) M n) := by
  have hx : M x = some (.inr (4, [.ref (x + 1), .ref (x + 5), .ref (x + 9), .ref (x + 11), .int w, .int sl, .int la, .int sp, .int rm, .int ln, .int mA, .int mB, .int lt, .int pr, .int tl, .int tk])) := hx
  refine j_start (cc := cX4_beginningAbove) (maxL := 2) (ret := (some .int)) (by decide) rfl [some (.ref x), some (.int t)] (Nat.le_of_ble_eq_true rfl) rfl ?_
  intro p e s m below meth c X hlk hr hnm
  refine j_aload_n X 0 dX4_beginningAbove_0 rfl rfl ?_
  refine j_get X hx rfl iwX4_beginningAbove_X4 5 (by decide) lkX4_beginningAbove_37 rfl dX4_beginningAbove_1 ?_
  refine j_iconst X dX4_beginningAbove_4 (v := 1) (by decide) ?_
  refine j_icmp_ge X 12 dX4_beginningAbove_5 (by decide) (fun c18 => ?_) (fun c18 => ?_)
  · skip
    refine j_iload_n X 1 dX4_beginningAbove_12 rfl rfl ?_
    refine j_aload_n X 0 dX4_beginningAbove_13 rfl rfl ?_
    refine j_get X hx rfl iwX4_beginningAbove_X4 5 (by decide) lkX4_beginningAbove_37 rfl dX4_beginningAbove_14 ?_
    refine j_callS X nwSQ_ok (As := [.int t, .int sl]) (rest := []) rfl (c_J9_floorDiv l D hI b0 t sl (fun q => by rw [q] at hsl; exact absurd hsl (by decide))) rfl gX4_beginningAbove_J9_floorDiv_7cf53 ddJ9_floorDiv_7cf53 ⟨Nat.le_of_ble_eq_true rfl, Nat.le_of_ble_eq_true rfl⟩ (Nat.le_of_ble_eq_true rfl) rfl dX4_beginningAbove_17 ⟨(by show 0 + 0 ≤ 0; omega), (by show 0 + 0 ≤ 0; omega)⟩ (fun r19 M20 n21 hr22 => ?_)
    obtain ⟨rfl, rfl, rfl⟩ := hr22
    refine j_st (st := [.int (fd t sl)]) rfl ?_
    refine j_iconst X dX4_beginningAbove_20 (v := 1) (by decide) ?_
    refine j_iadd X dX4_beginningAbove_21 ?_
    refine j_aload_n X 0 dX4_beginningAbove_22 rfl rfl ?_
    refine j_get X hx rfl iwX4_beginningAbove_X4 5 (by decide) lkX4_beginningAbove_37 rfl dX4_beginningAbove_23 ?_
    refine j_imul X dX4_beginningAbove_26 ?_
    exact j_iret X hlk hr (by omega) (by omega) dX4_beginningAbove_27 ⟨rfl, rfl, rfl⟩
  · skip
    exact absurd hsl c18
set_option maxHeartbeats 800000 in
set_option maxRecDepth 100000 in
theorem c_X4_countTaken (l : Launch) (D : va_G) {ty : jT} {cA : ClassId} (hI : ty[0]? = some (cA, .int)) (b0 : Nat) {M : jM} {n x : Nat} {w sl la sp rm ln mA mB lt pr tl tk : Int32} (hx : M x = some (sqO x w sl la sp rm ln mA mB lt pr tl tk)) (z : Int32) : Ct l D ty vwCl nwSQ b0 yX4_countTaken wsX4_countTaken 0 0 0 0 [.ref x, .int z] M n (fun r M' n' => r = none ∧ n = n' ∧ M' x = some (sqO x w sl la sp rm ln mA mB lt (pr + z) tl (tk + 1)) ∧ ∀ q, q ≠ x → M' q = M q) := by
  have hx : M x = some (.inr (4, [.ref (x + 1), .ref (x + 5), .ref (x + 9), .ref (x + 11), .int w, .int sl, .int la, .int sp, .int rm, .int ln, .int mA, .int mB, .int lt, .int pr, .int tl, .int tk])) := hx
  refine j_start (cc := cX4_countTaken) (maxL := 2) (ret := none) (by decide) rfl [some (.ref x), some (.int z)] (Nat.le_of_ble_eq_true rfl) rfl ?_
  intro p e s m below meth c X hlk hr hnm
  refine j_aload_n X 0 dX4_countTaken_0 rfl rfl ?_
  refine j_dup X dX4_countTaken_1 rfl ?_
  refine j_get X hx rfl iwX4_countTaken_X4 13 (by decide) lkX4_countTaken_153 rfl dX4_countTaken_2 ?_
  refine j_iload_n X 1 dX4_countTaken_5 rfl rfl ?_
  refine j_iadd X dX4_countTaken_6 ?_
  refine j_put X hx rfl iwX4_countTaken_X4 tyX4 tyX4_ok nmX4 13 (by decide) lkX4_countTaken_153 rfl rfl rfl (Nat.le_of_ble_eq_true rfl) (fs' := [.ref (x + 1), .ref (x + 5), .ref (x + 9), .ref (x + 11), .int w, .int sl, .int la, .int sp, .int rm, .int ln, .int mA, .int mB, .int lt, .int (pr + z), .int tl, .int tk]) rfl dX4_countTaken_7 ?_
  generalize eM23 : j_up M x (.inr (4, [.ref (x + 1), .ref (x + 5), .ref (x + 9), .ref (x + 11), .int w, .int sl, .int la, .int sp, .int rm, .int ln, .int mA, .int mB, .int lt, .int (pr + z), .int tl, .int tk])) = M23
  have h25 : M23 x = some (.inr (4, [.ref (x + 1), .ref (x + 5), .ref (x + 9), .ref (x + 11), .int w, .int sl, .int la, .int sp, .int rm, .int ln, .int mA, .int mB, .int lt, .int (pr + z), .int tl, .int tk])) := by rw [← eM23]; exact j_up_self _ _ _
  refine j_aload_n X 0 dX4_countTaken_10 rfl rfl ?_
  refine j_dup X dX4_countTaken_11 rfl ?_
  refine j_get X h25 rfl iwX4_countTaken_X4 15 (by decide) lkX4_countTaken_159 rfl dX4_countTaken_12 ?_
  refine j_iconst X dX4_countTaken_15 (v := 1) (by decide) ?_
  refine j_iadd X dX4_countTaken_16 ?_
  refine j_put X h25 rfl iwX4_countTaken_X4 tyX4 tyX4_ok nmX4 15 (by decide) lkX4_countTaken_159 rfl rfl rfl (Nat.le_of_ble_eq_true rfl) (fs' := [.ref (x + 1), .ref (x + 5), .ref (x + 9), .ref (x + 11), .int w, .int sl, .int la, .int sp, .int rm, .int ln, .int mA, .int mB, .int lt, .int (pr + z), .int tl, .int (tk + 1)]) rfl dX4_countTaken_17 ?_
  generalize eM26 : j_up M23 x (.inr (4, [.ref (x + 1), .ref (x + 5), .ref (x + 9), .ref (x + 11), .int w, .int sl, .int la, .int sp, .int rm, .int ln, .int mA, .int mB, .int lt, .int (pr + z), .int tl, .int (tk + 1)])) = M26
  have h28 : M26 x = some (.inr (4, [.ref (x + 1), .ref (x + 5), .ref (x + 9), .ref (x + 11), .int w, .int sl, .int la, .int sp, .int rm, .int ln, .int mA, .int mB, .int lt, .int (pr + z), .int tl, .int (tk + 1)])) := by rw [← eM26]; exact j_up_self _ _ _
  exact j_vret X hlk hr (by omega) (by omega) dX4_countTaken_20 ⟨rfl, rfl, h28, fun q hq => by rw [← eM26, j_up_ne _ _ (hq), ← eM23, j_up_ne _ _ (hq)]⟩
set_option maxHeartbeats 800000 in
set_option maxRecDepth 100000 in
theorem c_X4_refusalOfMark (l : Launch) (D : va_G) {ty : jT} {cA : ClassId} (hI : ty[0]? = some (cA, .int)) (b0 : Nat) {M : jM} {n : Nat} (t k : Int32) : Ct l D ty vwCl nwSQ b0 yX4_refusalOfMark wsX4_refusalOfMark 2 42 0 0 [.int t, .int k] M n (j_rd (.int (if ¬ (-1000000000 ≤ t ∧ t ≤ 1000000000) then -2 else if t ≤ k then -5 else 0)) M n) := by
  refine j_start (cc := cX4_refusalOfMark) (maxL := 2) (ret := (some .int)) (by decide) rfl [some (.int t), some (.int k)] (Nat.le_of_ble_eq_true rfl) rfl ?_
  intro p e s m below meth c X hlk hr hnm
  refine j_iload_n X 0 dX4_refusalOfMark_0 rfl rfl ?_
  refine j_callS X nwSQ_ok (As := [.int t]) (rest := []) rfl (c_X4_isTime l D hI b0 t) rfl gX4_refusalOfMark_X4_isTime ddX4_isTime ⟨Nat.le_of_ble_eq_true rfl, Nat.le_of_ble_eq_true rfl⟩ (Nat.le_of_ble_eq_true rfl) rfl dX4_refusalOfMark_1 ⟨(by show 0 + 0 ≤ 0; omega), (by show 0 + 0 ≤ 0; omega)⟩ (fun r29 M30 n31 hr32 => ?_)
  obtain ⟨rfl, rfl, rfl⟩ := hr32
  refine j_st (st := [.int (if -1000000000 ≤ t ∧ t ≤ 1000000000 then 1 else 0)]) rfl ?_
  refine j_if_ne X 10 dX4_refusalOfMark_4 (by decide) (fun c33 => ?_) (fun c33 => ?_)
  · skip
    refine j_iload_n X 0 dX4_refusalOfMark_10 rfl rfl ?_
    refine j_iload_n X 1 dX4_refusalOfMark_11 rfl rfl ?_
    refine j_icmp_gt X 20 dX4_refusalOfMark_12 (by decide) (fun c34 => ?_) (fun c34 => ?_)
    · skip
      refine j_iconst X dX4_refusalOfMark_20 (v := 0) (by decide) ?_
      exact j_iret X hlk hr (by omega) (by omega) dX4_refusalOfMark_21 ⟨congrArg (fun z => some (Value.int z)) ((if_neg (fun g => g (zo_ne.mp c33))).trans (if_neg (Int32.not_le.mpr c34))).symm, rfl, rfl⟩
    · skip
      refine j_bipush X dX4_refusalOfMark_15 (v := (-5)) (by decide) ?_
      refine j_goto X 21 dX4_refusalOfMark_17 (by decide) ?_
      exact j_iret X hlk hr (by omega) (by omega) dX4_refusalOfMark_21 ⟨congrArg (fun z => some (Value.int z)) ((if_neg (fun g => g (zo_ne.mp c33))).trans (if_pos (Int32.not_lt.mp c34))).symm, rfl, rfl⟩
  · skip
    refine j_bipush X dX4_refusalOfMark_7 (v := (-2)) (by decide) ?_
    exact j_iret X hlk hr (by omega) (by omega) dX4_refusalOfMark_9 ⟨congrArg (fun z => some (Value.int z)) (if_pos (zo_eq.mp c33)).symm, rfl, rfl⟩
set_option maxHeartbeats 800000 in
set_option maxRecDepth 100000 in
theorem c_X4_available (l : Launch) (D : va_G) {ty : jT} {cA : ClassId} (hI : ty[0]? = some (cA, .int)) (b0 : Nat) {M : jM} {n x : Nat} {w sl la sp rm ln mA mB lt pr tl tk : Int32} (hx : M x = some (sqO x w sl la sp rm ln mA mB lt pr tl tk)) {qu : List Rec} (hq : LnAt M (x + 11) qu) : Ct l D ty vwCl nwSQ b0 yX4_available wsX4_available 1 20 0 0 [.ref x] M n (j_rd (.int (nI qu.length)) M n) := by
  have hx : M x = some (.inr (4, [.ref (x + 1), .ref (x + 5), .ref (x + 9), .ref (x + 11), .int w, .int sl, .int la, .int sp, .int rm, .int ln, .int mA, .int mB, .int lt, .int pr, .int tl, .int tk])) := hx
  obtain ⟨fi, hqc⟩ := hq.cell
  refine j_start (cc := cX4_available) (maxL := 1) (ret := (some .int)) (by decide) rfl [some (.ref x)] (Nat.le_of_ble_eq_true rfl) rfl ?_
  intro p e s m below meth c X hlk hr hnm
  refine j_aload_n X 0 dX4_available_0 rfl rfl ?_
  refine j_get X hx rfl iwX4_available_X4 3 (by decide) lkX4_available_29 rfl dX4_available_1 ?_
  refine j_callV X nwSQ_ok (As := []) (rest := []) hqc rfl rfl (c_X3_size l D hI b0 hq) rfl gX4_available_X3_size ⟨rfl, ddX3_size⟩ ⟨Nat.le_of_ble_eq_true rfl, Nat.le_of_ble_eq_true rfl⟩ (Nat.le_of_ble_eq_true rfl) rfl dX4_available_4 ⟨(by show 0 + 0 ≤ 0; omega), (by show 0 + 0 ≤ 0; omega)⟩ (fun r35 M36 n37 hr38 => ?_)
  obtain ⟨rfl, rfl, rfl⟩ := hr38
  refine j_st (st := [.int (nI qu.length)]) rfl ?_
  exact j_iret X hlk hr (by omega) (by omega) dX4_available_7 ⟨rfl, rfl, rfl⟩
set_option maxHeartbeats 800000 in
set_option maxRecDepth 100000 in
theorem c_X4_kindT (l : Launch) (D : va_G) {ty : jT} {cA : ClassId} (hI : ty[0]? = some (cA, .int)) (b0 : Nat) {M : jM} {n x : Nat} {w sl la sp rm ln mA mB lt pr tl tk : Int32} (hx : M x = some (sqO x w sl la sp rm ln mA mB lt pr tl tk)) {qu : List Rec} (hq : LnAt M (x + 11) qu) {j : Nat} {rc : Rec} (hj : j < qu.length) (hrc : qu[j]? = some rc) : Ct l D ty vwCl nwSQ b0 yX4_kind wsX4_kind 2 45 0 0 [.ref x, .int (nI j)] M n (j_rd (.int rc.1) M n) := by
  have hx : M x = some (.inr (4, [.ref (x + 1), .ref (x + 5), .ref (x + 9), .ref (x + 11), .int w, .int sl, .int la, .int sp, .int rm, .int ln, .int mA, .int mB, .int lt, .int pr, .int tl, .int tk])) := hx
  obtain ⟨fi, hqc⟩ := hq.cell
  refine j_start (cc := cX4_kind) (maxL := 2) (ret := (some .int)) (by decide) rfl [some (.ref x), some (.int (nI j))] (Nat.le_of_ble_eq_true rfl) rfl ?_
  intro p e s m below meth c X hlk hr hnm
  refine j_aload_n X 0 dX4_kind_0 rfl rfl ?_
  refine j_get X hx rfl iwX4_kind_X4 3 (by decide) lkX4_kind_29 rfl dX4_kind_1 ?_
  refine j_iload_n X 1 dX4_kind_4 rfl rfl ?_
  refine j_iconst X dX4_kind_5 (v := 0) (by decide) ?_
  refine j_callV X nwSQ_ok (As := [.int (nI j), .int 0]) (rest := []) hqc rfl rfl (c_X3_cellT l D hI b0 hq (k := 0) hj (by decide) hrc) rfl gX4_kind_X3_cell ⟨rfl, ddX3_cell⟩ ⟨Nat.le_of_ble_eq_true rfl, Nat.le_of_ble_eq_true rfl⟩ (Nat.le_of_ble_eq_true rfl) rfl dX4_kind_6 ⟨(by show 0 + 0 ≤ 0; omega), (by show 0 + 0 ≤ 0; omega)⟩ (fun r39 M40 n41 hr42 => ?_)
  obtain ⟨rfl, rfl, rfl⟩ := hr42
  refine j_st (st := [.int (rec_get rc 0)]) rfl ?_
  exact j_iret X hlk hr (by omega) (by omega) dX4_kind_9 ⟨rfl, rfl, rfl⟩
set_option maxHeartbeats 800000 in
set_option maxRecDepth 100000 in
theorem c_X4_kindF (l : Launch) (D : va_G) {ty : jT} {cA : ClassId} (hI : ty[0]? = some (cA, .int)) (b0 : Nat) {M : jM} {n x : Nat} {w sl la sp rm ln mA mB lt pr tl tk : Int32} (hx : M x = some (sqO x w sl la sp rm ln mA mB lt pr tl tk)) {qu : List Rec} (hq : LnAt M (x + 11) qu) {i : Int32} (hi : i < 0 ∨ nI qu.length ≤ i) : Ct l D ty vwCl nwSQ b0 yX4_kind wsX4_kind 2 45 0 0 [.ref x, .int i] M n (j_rd (.int 0) M n) := by
  have hx : M x = some (.inr (4, [.ref (x + 1), .ref (x + 5), .ref (x + 9), .ref (x + 11), .int w, .int sl, .int la, .int sp, .int rm, .int ln, .int mA, .int mB, .int lt, .int pr, .int tl, .int tk])) := hx
  obtain ⟨fi, hqc⟩ := hq.cell
  refine j_start (cc := cX4_kind) (maxL := 2) (ret := (some .int)) (by decide) rfl [some (.ref x), some (.int i)] (Nat.le_of_ble_eq_true rfl) rfl ?_
  intro p e s m below meth c X hlk hr hnm
  refine j_aload_n X 0 dX4_kind_0 rfl rfl ?_
  refine j_get X hx rfl iwX4_kind_X4 3 (by decide) lkX4_kind_29 rfl dX4_kind_1 ?_
  refine j_iload_n X 1 dX4_kind_4 rfl rfl ?_
  refine j_iconst X dX4_kind_5 (v := 0) (by decide) ?_
  refine j_callV X nwSQ_ok (As := [.int i, .int 0]) (rest := []) hqc rfl rfl (c_X3_cellF l D hI b0 hq hi) rfl gX4_kind_X3_cell ⟨rfl, ddX3_cell⟩ ⟨Nat.le_of_ble_eq_true rfl, Nat.le_of_ble_eq_true rfl⟩ (Nat.le_of_ble_eq_true rfl) rfl dX4_kind_6 ⟨(by show 0 + 0 ≤ 0; omega), (by show 0 + 0 ≤ 0; omega)⟩ (fun r43 M44 n45 hr46 => ?_)
  obtain ⟨rfl, rfl, rfl⟩ := hr46
  refine j_st (st := [.int 0]) rfl ?_
  exact j_iret X hlk hr (by omega) (by omega) dX4_kind_9 ⟨rfl, rfl, rfl⟩
set_option maxHeartbeats 800000 in
set_option maxRecDepth 100000 in
theorem c_X4_fieldT (l : Launch) (D : va_G) {ty : jT} {cA : ClassId} (hI : ty[0]? = some (cA, .int)) (b0 : Nat) {M : jM} {n x : Nat} {w sl la sp rm ln mA mB lt pr tl tk : Int32} (hx : M x = some (sqO x w sl la sp rm ln mA mB lt pr tl tk)) {qu : List Rec} (hq : LnAt M (x + 11) qu) {j k : Nat} {rc : Rec} (hj : j < qu.length) (hk : k < 5) (hrc : qu[j]? = some rc) : Ct l D ty vwCl nwSQ b0 yX4_field wsX4_field 2 45 0 0 [.ref x, .int (nI j), .int (nI k)] M n (j_rd (.int (rec_get rc (k + 1))) M n) := by
  have hx : M x = some (.inr (4, [.ref (x + 1), .ref (x + 5), .ref (x + 9), .ref (x + 11), .int w, .int sl, .int la, .int sp, .int rm, .int ln, .int mA, .int mB, .int lt, .int pr, .int tl, .int tk])) := hx
  obtain ⟨fi, hqc⟩ := hq.cell
  refine j_start (cc := cX4_field) (maxL := 3) (ret := (some .int)) (by decide) rfl [some (.ref x), some (.int (nI j)), some (.int (nI k))] (Nat.le_of_ble_eq_true rfl) rfl ?_
  intro p e s m below meth c X hlk hr hnm
  refine j_iload_n X 2 dX4_field_0 rfl rfl ?_
  refine j_iconst X dX4_field_1 (v := 0) (by decide) ?_
  refine j_iconst X dX4_field_2 (v := 4) (by decide) ?_
  refine j_callS X nwSQ_ok (As := [.int (nI k), .int 0, .int 4]) (rest := []) rfl (c_X4_isWithin l D hI b0 (nI k) 0 4) rfl gX4_field_X4_isWithin ddX4_isWithin ⟨Nat.le_of_ble_eq_true rfl, Nat.le_of_ble_eq_true rfl⟩ (Nat.le_of_ble_eq_true rfl) rfl dX4_field_3 ⟨(by show 0 + 0 ≤ 0; omega), (by show 0 + 0 ≤ 0; omega)⟩ (fun r47 M48 n49 hr50 => ?_)
  obtain ⟨rfl, rfl, rfl⟩ := hr50
  refine j_st (st := [.int (if 0 ≤ (nI k) ∧ (nI k) ≤ 4 then 1 else 0)]) rfl ?_
  refine j_if_eq X 23 dX4_field_6 (by decide) (fun c51 => ?_) (fun c51 => ?_)
  · skip
    exact absurd ⟨nI_pos' (by omega), nI_le (b := 4) (by omega) (by decide)⟩ (zo_eq.mp c51)
  · skip
    refine j_aload_n X 0 dX4_field_9 rfl rfl ?_
    refine j_get X hx rfl iwX4_field_X4 3 (by decide) lkX4_field_29 rfl dX4_field_10 ?_
    refine j_iload_n X 1 dX4_field_13 rfl rfl ?_
    refine j_iload_n X 2 dX4_field_14 rfl rfl ?_
    refine j_iconst X dX4_field_15 (v := 1) (by decide) ?_
    refine j_iadd X dX4_field_16 ?_
    refine j_st (st := [.int (nI (k + 1)), .int (nI j), .ref (x + 11)]) (by rw [show (nI k) + 1 = nI (k + 1) from nI_add _ 1]) ?_
    refine j_callV X nwSQ_ok (As := [.int (nI j), .int (nI (k + 1))]) (rest := []) hqc rfl rfl (c_X3_cellT l D hI b0 hq (k := k + 1) hj (by omega) hrc) rfl gX4_field_X3_cell ⟨rfl, ddX3_cell⟩ ⟨Nat.le_of_ble_eq_true rfl, Nat.le_of_ble_eq_true rfl⟩ (Nat.le_of_ble_eq_true rfl) rfl dX4_field_17 ⟨(by show 0 + 0 ≤ 0; omega), (by show 0 + 0 ≤ 0; omega)⟩ (fun r52 M53 n54 hr55 => ?_)
    obtain ⟨rfl, rfl, rfl⟩ := hr55
    refine j_st (st := [.int (rec_get rc (k + 1))]) rfl ?_
    refine j_goto X 24 dX4_field_20 (by decide) ?_
    exact j_iret X hlk hr (by omega) (by omega) dX4_field_24 ⟨rfl, rfl, rfl⟩
set_option maxHeartbeats 800000 in
set_option maxRecDepth 100000 in
theorem c_X4_fieldF (l : Launch) (D : va_G) {ty : jT} {cA : ClassId} (hI : ty[0]? = some (cA, .int)) (b0 : Nat) {M : jM} {n x : Nat} {w sl la sp rm ln mA mB lt pr tl tk : Int32} (hx : M x = some (sqO x w sl la sp rm ln mA mB lt pr tl tk)) {qu : List Rec} (hq : LnAt M (x + 11) qu) {i : Int32} (hi : i < 0 ∨ nI qu.length ≤ i) (k : Int32) : Ct l D ty vwCl nwSQ b0 yX4_field wsX4_field 2 45 0 0 [.ref x, .int i, .int k] M n (j_rd (.int 0) M n) := by
  have hx : M x = some (.inr (4, [.ref (x + 1), .ref (x + 5), .ref (x + 9), .ref (x + 11), .int w, .int sl, .int la, .int sp, .int rm, .int ln, .int mA, .int mB, .int lt, .int pr, .int tl, .int tk])) := hx
  obtain ⟨fi, hqc⟩ := hq.cell
  refine j_start (cc := cX4_field) (maxL := 3) (ret := (some .int)) (by decide) rfl [some (.ref x), some (.int i), some (.int k)] (Nat.le_of_ble_eq_true rfl) rfl ?_
  intro p e s m below meth c X hlk hr hnm
  refine j_iload_n X 2 dX4_field_0 rfl rfl ?_
  refine j_iconst X dX4_field_1 (v := 0) (by decide) ?_
  refine j_iconst X dX4_field_2 (v := 4) (by decide) ?_
  refine j_callS X nwSQ_ok (As := [.int k, .int 0, .int 4]) (rest := []) rfl (c_X4_isWithin l D hI b0 k 0 4) rfl gX4_field_X4_isWithin ddX4_isWithin ⟨Nat.le_of_ble_eq_true rfl, Nat.le_of_ble_eq_true rfl⟩ (Nat.le_of_ble_eq_true rfl) rfl dX4_field_3 ⟨(by show 0 + 0 ≤ 0; omega), (by show 0 + 0 ≤ 0; omega)⟩ (fun r56 M57 n58 hr59 => ?_)
  obtain ⟨rfl, rfl, rfl⟩ := hr59
  refine j_st (st := [.int (if 0 ≤ k ∧ k ≤ 4 then 1 else 0)]) rfl ?_
  refine j_if_eq X 23 dX4_field_6 (by decide) (fun c60 => ?_) (fun c60 => ?_)
  · skip
    refine j_iconst X dX4_field_23 (v := 0) (by decide) ?_
    exact j_iret X hlk hr (by omega) (by omega) dX4_field_24 ⟨rfl, rfl, rfl⟩
  · skip
    refine j_aload_n X 0 dX4_field_9 rfl rfl ?_
    refine j_get X hx rfl iwX4_field_X4 3 (by decide) lkX4_field_29 rfl dX4_field_10 ?_
    refine j_iload_n X 1 dX4_field_13 rfl rfl ?_
    refine j_iload_n X 2 dX4_field_14 rfl rfl ?_
    refine j_iconst X dX4_field_15 (v := 1) (by decide) ?_
    refine j_iadd X dX4_field_16 ?_
    refine j_callV X nwSQ_ok (As := [.int i, .int (k + 1)]) (rest := []) hqc rfl rfl (c_X3_cellF l D hI b0 hq hi) rfl gX4_field_X3_cell ⟨rfl, ddX3_cell⟩ ⟨Nat.le_of_ble_eq_true rfl, Nat.le_of_ble_eq_true rfl⟩ (Nat.le_of_ble_eq_true rfl) rfl dX4_field_17 ⟨(by show 0 + 0 ≤ 0; omega), (by show 0 + 0 ≤ 0; omega)⟩ (fun r61 M62 n63 hr64 => ?_)
    obtain ⟨rfl, rfl, rfl⟩ := hr64
    refine j_st (st := [.int 0]) rfl ?_
    refine j_goto X 24 dX4_field_20 (by decide) ?_
    exact j_iret X hlk hr (by omega) (by omega) dX4_field_24 ⟨rfl, rfl, rfl⟩
set_option maxHeartbeats 800000 in
set_option maxRecDepth 100000 in
theorem c_X4_fieldK (l : Launch) (D : va_G) {ty : jT} {cA : ClassId} (hI : ty[0]? = some (cA, .int)) (b0 : Nat) {M : jM} {n x : Nat} {w sl la sp rm ln mA mB lt pr tl tk : Int32} (hx : M x = some (sqO x w sl la sp rm ln mA mB lt pr tl tk)) {qu : List Rec} (hq : LnAt M (x + 11) qu) (i : Int32) {k : Int32} (hk : ¬ (0 ≤ k ∧ k ≤ 4)) : Ct l D ty vwCl nwSQ b0 yX4_field wsX4_field 2 45 0 0 [.ref x, .int i, .int k] M n (j_rd (.int 0) M n) := by
  have hx : M x = some (.inr (4, [.ref (x + 1), .ref (x + 5), .ref (x + 9), .ref (x + 11), .int w, .int sl, .int la, .int sp, .int rm, .int ln, .int mA, .int mB, .int lt, .int pr, .int tl, .int tk])) := hx
  obtain ⟨fi, hqc⟩ := hq.cell
  refine j_start (cc := cX4_field) (maxL := 3) (ret := (some .int)) (by decide) rfl [some (.ref x), some (.int i), some (.int k)] (Nat.le_of_ble_eq_true rfl) rfl ?_
  intro p e s m below meth c X hlk hr hnm
  refine j_iload_n X 2 dX4_field_0 rfl rfl ?_
  refine j_iconst X dX4_field_1 (v := 0) (by decide) ?_
  refine j_iconst X dX4_field_2 (v := 4) (by decide) ?_
  refine j_callS X nwSQ_ok (As := [.int k, .int 0, .int 4]) (rest := []) rfl (c_X4_isWithin l D hI b0 k 0 4) rfl gX4_field_X4_isWithin ddX4_isWithin ⟨Nat.le_of_ble_eq_true rfl, Nat.le_of_ble_eq_true rfl⟩ (Nat.le_of_ble_eq_true rfl) rfl dX4_field_3 ⟨(by show 0 + 0 ≤ 0; omega), (by show 0 + 0 ≤ 0; omega)⟩ (fun r65 M66 n67 hr68 => ?_)
  obtain ⟨rfl, rfl, rfl⟩ := hr68
  refine j_st (st := [.int (if 0 ≤ k ∧ k ≤ 4 then 1 else 0)]) rfl ?_
  refine j_if_eq X 23 dX4_field_6 (by decide) (fun c69 => ?_) (fun c69 => ?_)
  · skip
    refine j_iconst X dX4_field_23 (v := 0) (by decide) ?_
    exact j_iret X hlk hr (by omega) (by omega) dX4_field_24 ⟨rfl, rfl, rfl⟩
  · skip
    exact absurd (zo_ne.mp c69) hk
set_option maxHeartbeats 800000 in
set_option maxRecDepth 100000 in
theorem c_X4_popE (l : Launch) (D : va_G) {ty : jT} {cA : ClassId} (hI : ty[0]? = some (cA, .int)) (b0 : Nat) {M : jM} {n x : Nat} {w sl la sp rm ln mA mB lt pr tl tk : Int32} (hx : M x = some (sqO x w sl la sp rm ln mA mB lt pr tl tk)) (hq : LnAt M (x + 11) []) : Ct l D ty vwCl nwSQ b0 yX4_pop wsX4_pop 1 20 0 0 [.ref x] M n (j_rd (.int 0) M n) := by
  have hx : M x = some (.inr (4, [.ref (x + 1), .ref (x + 5), .ref (x + 9), .ref (x + 11), .int w, .int sl, .int la, .int sp, .int rm, .int ln, .int mA, .int mB, .int lt, .int pr, .int tl, .int tk])) := hx
  obtain ⟨fi, hqc⟩ := hq.cell
  refine j_start (cc := cX4_pop) (maxL := 1) (ret := (some .boolean)) (by decide) rfl [some (.ref x)] (Nat.le_of_ble_eq_true rfl) rfl ?_
  intro p e s m below meth c X hlk hr hnm
  refine j_aload_n X 0 dX4_pop_0 rfl rfl ?_
  refine j_get X hx rfl iwX4_pop_X4 3 (by decide) lkX4_pop_29 rfl dX4_pop_1 ?_
  refine j_callV X nwSQ_ok (As := []) (rest := []) hqc rfl rfl (c_X3_dropE l D hI b0 hq) rfl gX4_pop_X3_dropFirst ⟨rfl, ddX3_dropFirst⟩ ⟨Nat.le_of_ble_eq_true rfl, Nat.le_of_ble_eq_true rfl⟩ (Nat.le_of_ble_eq_true rfl) rfl dX4_pop_4 ⟨(by show 0 + 0 ≤ 0; omega), (by show 0 + 0 ≤ 0; omega)⟩ (fun r70 M71 n72 hr73 => ?_)
  obtain ⟨rfl, rfl, rfl⟩ := hr73
  refine j_st (st := [.int 0]) rfl ?_
  exact j_zret X hlk hr (by omega) (by omega) (by decide) dX4_pop_7 ⟨rfl, rfl, rfl⟩
set_option maxHeartbeats 800000 in
set_option maxRecDepth 100000 in
theorem c_X4_popC (l : Launch) (D : va_G) {ty : jT} {cA : ClassId} (hI : ty[0]? = some (cA, .int)) (b0 : Nat) {M : jM} {n x : Nat} {w sl la sp rm ln mA mB lt pr tl tk : Int32} (hx : M x = some (sqO x w sl la sp rm ln mA mB lt pr tl tk)) {rc : Rec} {qu : List Rec} (hq : LnAt M (x + 11) (rc :: qu)) : Ct l D ty vwCl nwSQ b0 yX4_pop wsX4_pop 1 20 0 0 [.ref x] M n (fun r M' n' => r = some (.int 1) ∧ n = n' ∧ LnAt M' (x + 11) qu ∧ ∀ q, (q < x + 11 ∨ x + 12 < q) → M' q = M q) := by
  have hx : M x = some (.inr (4, [.ref (x + 1), .ref (x + 5), .ref (x + 9), .ref (x + 11), .int w, .int sl, .int la, .int sp, .int rm, .int ln, .int mA, .int mB, .int lt, .int pr, .int tl, .int tk])) := hx
  obtain ⟨fi, hqc⟩ := hq.cell
  refine j_start (cc := cX4_pop) (maxL := 1) (ret := (some .boolean)) (by decide) rfl [some (.ref x)] (Nat.le_of_ble_eq_true rfl) rfl ?_
  intro p e s m below meth c X hlk hr hnm
  refine j_aload_n X 0 dX4_pop_0 rfl rfl ?_
  refine j_get X hx rfl iwX4_pop_X4 3 (by decide) lkX4_pop_29 rfl dX4_pop_1 ?_
  refine j_callV X nwSQ_ok (As := []) (rest := []) hqc rfl rfl (c_X3_dropC l D hI b0 hq) rfl gX4_pop_X3_dropFirst ⟨rfl, ddX3_dropFirst⟩ ⟨Nat.le_of_ble_eq_true rfl, Nat.le_of_ble_eq_true rfl⟩ (Nat.le_of_ble_eq_true rfl) rfl dX4_pop_4 ⟨(by show 0 + 0 ≤ 0; omega), (by show 0 + 0 ≤ 0; omega)⟩ (fun r74 M75 n76 hr77 => ?_)
  obtain ⟨rfl, rfl, hl2, hf2⟩ := hr77
  refine j_st (st := [.int 1]) rfl ?_
  exact j_zret X hlk hr (by omega) (by omega) (by decide) dX4_pop_7 ⟨rfl, rfl, hl2, fun q hq => hf2 q (by omega)⟩
set_option maxHeartbeats 800000 in
set_option maxRecDepth 100000 in
theorem c_X4_lookN (l : Launch) (D : va_G) {ty : jT} {cA : ClassId} (hI : ty[0]? = some (cA, .int)) (b0 : Nat) {M : jM} {n x : Nat} {w sl la sp rm ln mA mB lt pr tl tk : Int32} (hx : M x = some (sqO x w sl la sp rm ln mA mB lt pr tl tk)) {cs : List Nd} (hg : GrAt M (x + 9) cs) (e1 k1 v : Int32) (hf : fnd e1 k1 (lb e1 k1 (x + 9 + 1, g_hd) cs).2 = none) : Ct l D ty vwCl nwSQ b0 yX4_look wsX4_look 3 68 0 0 [.ref x, .int e1, .int k1, .int v] M n (j_rd (.int 0) M n) := by
  have hx : M x = some (.inr (4, [.ref (x + 1), .ref (x + 5), .ref (x + 9), .ref (x + 11), .int w, .int sl, .int la, .int sp, .int rm, .int ln, .int mA, .int mB, .int lt, .int pr, .int tl, .int tk])) := hx
  refine j_start (cc := cX4_look) (maxL := 5) (ret := (some .int)) (by decide) rfl [some (.ref x), some (.int e1), some (.int k1), some (.int v), none] (Nat.le_of_ble_eq_true rfl) rfl ?_
  intro p e s m below meth c X hlk hr hnm
  refine j_aload_n X 0 dX4_look_0 rfl rfl ?_
  refine j_get X hx rfl iwX4_look_X4 2 (by decide) lkX4_look_22 rfl dX4_look_1 ?_
  refine j_iload_n X 1 dX4_look_4 rfl rfl ?_
  refine j_iload_n X 2 dX4_look_5 rfl rfl ?_
  refine j_callV X nwSQ_ok (As := [.int e1, .int k1]) (rest := []) hg.1 rfl rfl (c_X2_find l D hI b0 hg e1 k1) rfl gX4_look_X2_find ⟨rfl, ddX2_find⟩ ⟨Nat.le_of_ble_eq_true rfl, Nat.le_of_ble_eq_true rfl⟩ (Nat.le_of_ble_eq_true rfl) rfl dX4_look_6 ⟨(by show 0 + 0 ≤ 0; omega), (by show 0 + 0 ≤ 0; omega)⟩ (fun r78 M79 n80 hr81 => ?_)
  obtain ⟨rfl, rfl, rfl⟩ := hr81
  refine j_st (st := [.null]) (by rw [hf]; rfl) ?_
  refine j_astoreN X dX4_look_9 (by decide) rfl (L' := [some (.ref x), some (.int e1), some (.int k1), some (.int v), some (.null)]) rfl ?_
  refine j_aloadN X dX4_look_11 rfl ?_
  refine j_ifnonnullN X dX4_look_13 ?_
  refine j_iconst X dX4_look_16 (v := 0) (by decide) ?_
  exact j_iret X hlk hr (by omega) (by omega) dX4_look_17 ⟨rfl, rfl, rfl⟩
set_option maxHeartbeats 800000 in
set_option maxRecDepth 100000 in
theorem c_X4_lookS (l : Launch) (D : va_G) {ty : jT} {cA : ClassId} (hI : ty[0]? = some (cA, .int)) (b0 : Nat) {M : jM} {n x : Nat} {w sl la sp rm ln mA mB lt pr tl tk : Int32} (hx : M x = some (sqO x w sl la sp rm ln mA mB lt pr tl tk)) {cs : List Nd} (hg : GrAt M (x + 9) cs) (e1 k1 v : Int32) {a : Nat} {g : Grp} {nx : Option Nat} (hf : fnd e1 k1 (lb e1 k1 (x + 9 + 1, g_hd) cs).2 = some a) (ha : M a = some (gnode g nx)) : Ct l D ty vwCl nwSQ b0 yX4_look wsX4_look 3 68 0 0 [.ref x, .int e1, .int k1, .int v] M n (j_rd (.int (if v = 0 then g.2.2.1 else if v = 1 then g.2.2.2.1 else if v = 2 then g.2.2.2.2 else 0)) M n) := by
  have hx : M x = some (.inr (4, [.ref (x + 1), .ref (x + 5), .ref (x + 9), .ref (x + 11), .int w, .int sl, .int la, .int sp, .int rm, .int ln, .int mA, .int mB, .int lt, .int pr, .int tl, .int tk])) := hx
  have ha : M a = some (.inr (1, [.int g.1, .int g.2.1, .int g.2.2.1, .int g.2.2.2.1, .int g.2.2.2.2, va_rf nx])) := ha
  refine j_start (cc := cX4_look) (maxL := 5) (ret := (some .int)) (by decide) rfl [some (.ref x), some (.int e1), some (.int k1), some (.int v), none] (Nat.le_of_ble_eq_true rfl) rfl ?_
  intro p e s m below meth c X hlk hr hnm
  refine j_aload_n X 0 dX4_look_0 rfl rfl ?_
  refine j_get X hx rfl iwX4_look_X4 2 (by decide) lkX4_look_22 rfl dX4_look_1 ?_
  refine j_iload_n X 1 dX4_look_4 rfl rfl ?_
  refine j_iload_n X 2 dX4_look_5 rfl rfl ?_
  refine j_callV X nwSQ_ok (As := [.int e1, .int k1]) (rest := []) hg.1 rfl rfl (c_X2_find l D hI b0 hg e1 k1) rfl gX4_look_X2_find ⟨rfl, ddX2_find⟩ ⟨Nat.le_of_ble_eq_true rfl, Nat.le_of_ble_eq_true rfl⟩ (Nat.le_of_ble_eq_true rfl) rfl dX4_look_6 ⟨(by show 0 + 0 ≤ 0; omega), (by show 0 + 0 ≤ 0; omega)⟩ (fun r82 M83 n84 hr85 => ?_)
  obtain ⟨rfl, rfl, rfl⟩ := hr85
  refine j_st (st := [.ref a]) (by rw [hf]; rfl) ?_
  refine j_astore X dX4_look_9 (by decide) rfl (L' := [some (.ref x), some (.int e1), some (.int k1), some (.int v), some (.ref a)]) rfl ?_
  refine j_aload X dX4_look_11 rfl ?_
  refine j_ifnonnullR X 18 dX4_look_13 (by decide) ?_
  refine j_iload_n X 3 dX4_look_18 rfl rfl ?_
  by_cases c86 : v = 0
  · skip
    refine j_tableIn X 44 dX4_look_19 (by rw [c86]; decide) (by rw [c86]; decide) (off := 25) (by rw [c86]; decide) (by decide) ?_
    refine j_aload X dX4_look_44 rfl ?_
    refine j_getN X ha rfl iwX4_look_X1 2 (by decide) lkX4_look_130 rfl dX4_look_46 ?_
    exact j_iret X hlk hr (by omega) (by omega) dX4_look_49 ⟨congrArg (fun z => some (Value.int z)) (if_pos c86).symm, rfl, rfl⟩
  by_cases c87 : v = 1
  · skip
    refine j_tableIn X 50 dX4_look_19 (by rw [c87]; decide) (by rw [c87]; decide) (off := 31) (by rw [c87]; decide) (by decide) ?_
    refine j_aload X dX4_look_50 rfl ?_
    refine j_getN X ha rfl iwX4_look_X1 3 (by decide) lkX4_look_135 rfl dX4_look_52 ?_
    exact j_iret X hlk hr (by omega) (by omega) dX4_look_55 ⟨congrArg (fun z => some (Value.int z)) ((if_neg (by rw [c87]; decide)).trans (if_pos c87)).symm, rfl, rfl⟩
  by_cases c88 : v = 2
  · skip
    refine j_tableIn X 56 dX4_look_19 (by rw [c88]; decide) (by rw [c88]; decide) (off := 37) (by rw [c88]; decide) (by decide) ?_
    refine j_aload X dX4_look_56 rfl ?_
    refine j_getN X ha rfl iwX4_look_X1 4 (by decide) lkX4_look_138 rfl dX4_look_58 ?_
    exact j_iret X hlk hr (by omega) (by omega) dX4_look_61 ⟨congrArg (fun z => some (Value.int z)) ((if_neg (by rw [c88]; decide)).trans ((if_neg (by rw [c88]; decide)).trans (if_pos c88))).symm, rfl, rfl⟩
  · skip
    refine j_tableOut X 62 dX4_look_19 (by have q0 := lv_neT (a := 0) c86 (by decide); have q1 := lv_neT (a := 1) c87 (by decide); have q2 := lv_neT (a := 2) c88 (by decide); omega) (by decide) ?_
    refine j_iconst X dX4_look_62 (v := 0) (by decide) ?_
    exact j_iret X hlk hr (by omega) (by omega) dX4_look_63 ⟨congrArg (fun z => some (Value.int z)) ((if_neg c86).trans ((if_neg c87).trans (if_neg c88))).symm, rfl, rfl⟩
set_option maxHeartbeats 800000 in
set_option maxRecDepth 100000 in
theorem c_X4_eventAT (l : Launch) (D : va_G) {ty : jT} {cA : ClassId} (hI : ty[0]? = some (cA, .int)) (b0 : Nat) {M : jM} {n x : Nat} {w sl la sp rm ln mA mB lt pr tl tk : Int32} (hx : M x = some (sqO x w sl la sp rm ln mA mB lt pr tl tk)) {le : List Ev} (he : EvAt M (x + 1) le) {j : Nat} {ev : Ev} (hj : j < le.length) (hev : le[j]? = some ev) (v : Int32) : Ct l D ty vwCl nwSQ b0 yX4_event wsX4_event 2 42 0 0 [.ref x, .int 0, .int (nI j), .int v] M n (j_rd (.int (if v = 0 then ev.1 else if v = 1 then ev.2.1 else if v = 2 then ev.2.2 else 0)) M n) := by
  have hx : M x = some (.inr (4, [.ref (x + 1), .ref (x + 5), .ref (x + 9), .ref (x + 11), .int w, .int sl, .int la, .int sp, .int rm, .int ln, .int mA, .int mB, .int lt, .int pr, .int tl, .int tk])) := hx
  refine j_start (cc := cX4_event) (maxL := 5) (ret := (some .int)) (by decide) rfl [some (.ref x), some (.int 0), some (.int (nI j)), some (.int v), none] (Nat.le_of_ble_eq_true rfl) rfl ?_
  intro p e s m below meth c X hlk hr hnm
  refine j_iload_n X 1 dX4_event_0 rfl rfl ?_
  refine j_iconst X dX4_event_1 (v := 0) (by decide) ?_
  refine j_iconst X dX4_event_2 (v := 1) (by decide) ?_
  refine j_callS X nwSQ_ok (As := [.int 0, .int 0, .int 1]) (rest := []) rfl (c_X4_isWithin l D hI b0 0 0 1) rfl gX4_event_X4_isWithin ddX4_isWithin ⟨Nat.le_of_ble_eq_true rfl, Nat.le_of_ble_eq_true rfl⟩ (Nat.le_of_ble_eq_true rfl) rfl dX4_event_3 ⟨(by show 0 + 0 ≤ 0; omega), (by show 0 + 0 ≤ 0; omega)⟩ (fun r89 M90 n91 hr92 => ?_)
  obtain ⟨rfl, rfl, rfl⟩ := hr92
  refine j_st (st := [.int (if 0 ≤ 0 ∧ 0 ≤ 1 then 1 else 0)]) rfl ?_
  refine j_if_ne X 11 dX4_event_6 (by decide) (fun c93 => ?_) (fun c93 => ?_)
  · skip
    refine j_iload_n X 1 dX4_event_11 rfl rfl ?_
    refine j_if_ne X 22 dX4_event_12 (by decide) (fun c94 => ?_) (fun c94 => ?_)
    · skip
      exact absurd rfl c94
    · skip
      refine j_aload_n X 0 dX4_event_15 rfl rfl ?_
      refine j_get X hx rfl iwX4_event_X4 0 (by decide) lkX4_event_10 rfl dX4_event_16 ?_
      refine j_goto X 26 dX4_event_19 (by decide) ?_
      refine j_astore X dX4_event_26 (by decide) rfl (L' := [some (.ref x), some (.int 0), some (.int (nI j)), some (.int v), some (.ref (x + 1))]) rfl ?_
      refine j_iload_n X 3 dX4_event_28 rfl rfl ?_
      by_cases c95 : v = 0
      · skip
        refine j_tableIn X 56 dX4_event_29 (by rw [c95]; decide) (by rw [c95]; decide) (off := 27) (by rw [c95]; decide) (by decide) ?_
        refine j_aload X dX4_event_56 rfl ?_
        refine j_iload_n X 2 dX4_event_58 rfl rfl ?_
        refine j_callV X nwSQ_ok (As := [.int (nI j)]) (rest := []) he.cell rfl rfl (c_X0_timeT l D hI b0 he hj hev) rfl gX4_event_X0_time ⟨rfl, ddX0_time⟩ ⟨Nat.le_of_ble_eq_true rfl, Nat.le_of_ble_eq_true rfl⟩ (Nat.le_of_ble_eq_true rfl) rfl dX4_event_59 ⟨(by show 0 + 0 ≤ 0; omega), (by show 0 + 0 ≤ 0; omega)⟩ (fun r96 M97 n98 hr99 => ?_)
        obtain ⟨rfl, rfl, rfl⟩ := hr99
        refine j_st (st := [.int ev.1]) rfl ?_
        exact j_iret X hlk hr (by omega) (by omega) dX4_event_62 ⟨congrArg (fun z => some (Value.int z)) (if_pos c95).symm, rfl, rfl⟩
      by_cases c100 : v = 1
      · skip
        refine j_tableIn X 63 dX4_event_29 (by rw [c100]; decide) (by rw [c100]; decide) (off := 34) (by rw [c100]; decide) (by decide) ?_
        refine j_aload X dX4_event_63 rfl ?_
        refine j_iload_n X 2 dX4_event_65 rfl rfl ?_
        refine j_callV X nwSQ_ok (As := [.int (nI j)]) (rest := []) he.cell rfl rfl (c_X0_keyT l D hI b0 he hj hev) rfl gX4_event_X0_key ⟨rfl, ddX0_key⟩ ⟨Nat.le_of_ble_eq_true rfl, Nat.le_of_ble_eq_true rfl⟩ (Nat.le_of_ble_eq_true rfl) rfl dX4_event_66 ⟨(by show 0 + 0 ≤ 0; omega), (by show 0 + 0 ≤ 0; omega)⟩ (fun r101 M102 n103 hr104 => ?_)
        obtain ⟨rfl, rfl, rfl⟩ := hr104
        refine j_st (st := [.int ev.2.1]) rfl ?_
        exact j_iret X hlk hr (by omega) (by omega) dX4_event_69 ⟨congrArg (fun z => some (Value.int z)) ((if_neg (by rw [c100]; decide)).trans (if_pos c100)).symm, rfl, rfl⟩
      by_cases c105 : v = 2
      · skip
        refine j_tableIn X 70 dX4_event_29 (by rw [c105]; decide) (by rw [c105]; decide) (off := 41) (by rw [c105]; decide) (by decide) ?_
        refine j_aload X dX4_event_70 rfl ?_
        refine j_iload_n X 2 dX4_event_72 rfl rfl ?_
        refine j_callV X nwSQ_ok (As := [.int (nI j)]) (rest := []) he.cell rfl rfl (c_X0_valueT l D hI b0 he hj hev) rfl gX4_event_X0_value ⟨rfl, ddX0_value⟩ ⟨Nat.le_of_ble_eq_true rfl, Nat.le_of_ble_eq_true rfl⟩ (Nat.le_of_ble_eq_true rfl) rfl dX4_event_73 ⟨(by show 0 + 0 ≤ 0; omega), (by show 0 + 0 ≤ 0; omega)⟩ (fun r106 M107 n108 hr109 => ?_)
        obtain ⟨rfl, rfl, rfl⟩ := hr109
        refine j_st (st := [.int ev.2.2]) rfl ?_
        exact j_iret X hlk hr (by omega) (by omega) dX4_event_76 ⟨congrArg (fun z => some (Value.int z)) ((if_neg (by rw [c105]; decide)).trans ((if_neg (by rw [c105]; decide)).trans (if_pos c105))).symm, rfl, rfl⟩
      · skip
        refine j_tableOut X 77 dX4_event_29 (by have q0 := lv_neT (a := 0) c95 (by decide); have q1 := lv_neT (a := 1) c100 (by decide); have q2 := lv_neT (a := 2) c105 (by decide); omega) (by decide) ?_
        refine j_iconst X dX4_event_77 (v := 0) (by decide) ?_
        exact j_iret X hlk hr (by omega) (by omega) dX4_event_78 ⟨congrArg (fun z => some (Value.int z)) ((if_neg c95).trans ((if_neg c100).trans (if_neg c105))).symm, rfl, rfl⟩
  · skip
    exact absurd c93 (by decide)
set_option maxHeartbeats 800000 in
set_option maxRecDepth 100000 in
theorem c_X4_eventAF (l : Launch) (D : va_G) {ty : jT} {cA : ClassId} (hI : ty[0]? = some (cA, .int)) (b0 : Nat) {M : jM} {n x : Nat} {w sl la sp rm ln mA mB lt pr tl tk : Int32} (hx : M x = some (sqO x w sl la sp rm ln mA mB lt pr tl tk)) {le : List Ev} (he : EvAt M (x + 1) le) {i : Int32} (hi : i < 0 ∨ nI le.length ≤ i) (v : Int32) : Ct l D ty vwCl nwSQ b0 yX4_event wsX4_event 2 42 0 0 [.ref x, .int 0, .int i, .int v] M n (j_rd (.int 0) M n) := by
  have hx : M x = some (.inr (4, [.ref (x + 1), .ref (x + 5), .ref (x + 9), .ref (x + 11), .int w, .int sl, .int la, .int sp, .int rm, .int ln, .int mA, .int mB, .int lt, .int pr, .int tl, .int tk])) := hx
  refine j_start (cc := cX4_event) (maxL := 5) (ret := (some .int)) (by decide) rfl [some (.ref x), some (.int 0), some (.int i), some (.int v), none] (Nat.le_of_ble_eq_true rfl) rfl ?_
  intro p e s m below meth c X hlk hr hnm
  refine j_iload_n X 1 dX4_event_0 rfl rfl ?_
  refine j_iconst X dX4_event_1 (v := 0) (by decide) ?_
  refine j_iconst X dX4_event_2 (v := 1) (by decide) ?_
  refine j_callS X nwSQ_ok (As := [.int 0, .int 0, .int 1]) (rest := []) rfl (c_X4_isWithin l D hI b0 0 0 1) rfl gX4_event_X4_isWithin ddX4_isWithin ⟨Nat.le_of_ble_eq_true rfl, Nat.le_of_ble_eq_true rfl⟩ (Nat.le_of_ble_eq_true rfl) rfl dX4_event_3 ⟨(by show 0 + 0 ≤ 0; omega), (by show 0 + 0 ≤ 0; omega)⟩ (fun r110 M111 n112 hr113 => ?_)
  obtain ⟨rfl, rfl, rfl⟩ := hr113
  refine j_st (st := [.int (if 0 ≤ 0 ∧ 0 ≤ 1 then 1 else 0)]) rfl ?_
  refine j_if_ne X 11 dX4_event_6 (by decide) (fun c114 => ?_) (fun c114 => ?_)
  · skip
    refine j_iload_n X 1 dX4_event_11 rfl rfl ?_
    refine j_if_ne X 22 dX4_event_12 (by decide) (fun c115 => ?_) (fun c115 => ?_)
    · skip
      exact absurd rfl c115
    · skip
      refine j_aload_n X 0 dX4_event_15 rfl rfl ?_
      refine j_get X hx rfl iwX4_event_X4 0 (by decide) lkX4_event_10 rfl dX4_event_16 ?_
      refine j_goto X 26 dX4_event_19 (by decide) ?_
      refine j_astore X dX4_event_26 (by decide) rfl (L' := [some (.ref x), some (.int 0), some (.int i), some (.int v), some (.ref (x + 1))]) rfl ?_
      refine j_iload_n X 3 dX4_event_28 rfl rfl ?_
      by_cases c116 : v = 0
      · skip
        refine j_tableIn X 56 dX4_event_29 (by rw [c116]; decide) (by rw [c116]; decide) (off := 27) (by rw [c116]; decide) (by decide) ?_
        refine j_aload X dX4_event_56 rfl ?_
        refine j_iload_n X 2 dX4_event_58 rfl rfl ?_
        refine j_callV X nwSQ_ok (As := [.int i]) (rest := []) he.cell rfl rfl (c_X0_timeF l D hI b0 he hi) rfl gX4_event_X0_time ⟨rfl, ddX0_time⟩ ⟨Nat.le_of_ble_eq_true rfl, Nat.le_of_ble_eq_true rfl⟩ (Nat.le_of_ble_eq_true rfl) rfl dX4_event_59 ⟨(by show 0 + 0 ≤ 0; omega), (by show 0 + 0 ≤ 0; omega)⟩ (fun r117 M118 n119 hr120 => ?_)
        obtain ⟨rfl, rfl, rfl⟩ := hr120
        refine j_st (st := [.int 0]) rfl ?_
        exact j_iret X hlk hr (by omega) (by omega) dX4_event_62 ⟨rfl, rfl, rfl⟩
      by_cases c121 : v = 1
      · skip
        refine j_tableIn X 63 dX4_event_29 (by rw [c121]; decide) (by rw [c121]; decide) (off := 34) (by rw [c121]; decide) (by decide) ?_
        refine j_aload X dX4_event_63 rfl ?_
        refine j_iload_n X 2 dX4_event_65 rfl rfl ?_
        refine j_callV X nwSQ_ok (As := [.int i]) (rest := []) he.cell rfl rfl (c_X0_keyF l D hI b0 he hi) rfl gX4_event_X0_key ⟨rfl, ddX0_key⟩ ⟨Nat.le_of_ble_eq_true rfl, Nat.le_of_ble_eq_true rfl⟩ (Nat.le_of_ble_eq_true rfl) rfl dX4_event_66 ⟨(by show 0 + 0 ≤ 0; omega), (by show 0 + 0 ≤ 0; omega)⟩ (fun r122 M123 n124 hr125 => ?_)
        obtain ⟨rfl, rfl, rfl⟩ := hr125
        refine j_st (st := [.int 0]) rfl ?_
        exact j_iret X hlk hr (by omega) (by omega) dX4_event_69 ⟨rfl, rfl, rfl⟩
      by_cases c126 : v = 2
      · skip
        refine j_tableIn X 70 dX4_event_29 (by rw [c126]; decide) (by rw [c126]; decide) (off := 41) (by rw [c126]; decide) (by decide) ?_
        refine j_aload X dX4_event_70 rfl ?_
        refine j_iload_n X 2 dX4_event_72 rfl rfl ?_
        refine j_callV X nwSQ_ok (As := [.int i]) (rest := []) he.cell rfl rfl (c_X0_valueF l D hI b0 he hi) rfl gX4_event_X0_value ⟨rfl, ddX0_value⟩ ⟨Nat.le_of_ble_eq_true rfl, Nat.le_of_ble_eq_true rfl⟩ (Nat.le_of_ble_eq_true rfl) rfl dX4_event_73 ⟨(by show 0 + 0 ≤ 0; omega), (by show 0 + 0 ≤ 0; omega)⟩ (fun r127 M128 n129 hr130 => ?_)
        obtain ⟨rfl, rfl, rfl⟩ := hr130
        refine j_st (st := [.int 0]) rfl ?_
        exact j_iret X hlk hr (by omega) (by omega) dX4_event_76 ⟨rfl, rfl, rfl⟩
      · skip
        refine j_tableOut X 77 dX4_event_29 (by have q0 := lv_neT (a := 0) c116 (by decide); have q1 := lv_neT (a := 1) c121 (by decide); have q2 := lv_neT (a := 2) c126 (by decide); omega) (by decide) ?_
        refine j_iconst X dX4_event_77 (v := 0) (by decide) ?_
        exact j_iret X hlk hr (by omega) (by omega) dX4_event_78 ⟨rfl, rfl, rfl⟩
  · skip
    exact absurd c114 (by decide)
set_option maxHeartbeats 800000 in
set_option maxRecDepth 100000 in
theorem c_X4_eventBT (l : Launch) (D : va_G) {ty : jT} {cA : ClassId} (hI : ty[0]? = some (cA, .int)) (b0 : Nat) {M : jM} {n x : Nat} {w sl la sp rm ln mA mB lt pr tl tk : Int32} (hx : M x = some (sqO x w sl la sp rm ln mA mB lt pr tl tk)) {le : List Ev} (he : EvAt M (x + 5) le) {j : Nat} {ev : Ev} (hj : j < le.length) (hev : le[j]? = some ev) (v : Int32) : Ct l D ty vwCl nwSQ b0 yX4_event wsX4_event 2 42 0 0 [.ref x, .int 1, .int (nI j), .int v] M n (j_rd (.int (if v = 0 then ev.1 else if v = 1 then ev.2.1 else if v = 2 then ev.2.2 else 0)) M n) := by
  have hx : M x = some (.inr (4, [.ref (x + 1), .ref (x + 5), .ref (x + 9), .ref (x + 11), .int w, .int sl, .int la, .int sp, .int rm, .int ln, .int mA, .int mB, .int lt, .int pr, .int tl, .int tk])) := hx
  refine j_start (cc := cX4_event) (maxL := 5) (ret := (some .int)) (by decide) rfl [some (.ref x), some (.int 1), some (.int (nI j)), some (.int v), none] (Nat.le_of_ble_eq_true rfl) rfl ?_
  intro p e s m below meth c X hlk hr hnm
  refine j_iload_n X 1 dX4_event_0 rfl rfl ?_
  refine j_iconst X dX4_event_1 (v := 0) (by decide) ?_
  refine j_iconst X dX4_event_2 (v := 1) (by decide) ?_
  refine j_callS X nwSQ_ok (As := [.int 1, .int 0, .int 1]) (rest := []) rfl (c_X4_isWithin l D hI b0 1 0 1) rfl gX4_event_X4_isWithin ddX4_isWithin ⟨Nat.le_of_ble_eq_true rfl, Nat.le_of_ble_eq_true rfl⟩ (Nat.le_of_ble_eq_true rfl) rfl dX4_event_3 ⟨(by show 0 + 0 ≤ 0; omega), (by show 0 + 0 ≤ 0; omega)⟩ (fun r131 M132 n133 hr134 => ?_)
  obtain ⟨rfl, rfl, rfl⟩ := hr134
  refine j_st (st := [.int (if 0 ≤ 1 ∧ 1 ≤ 1 then 1 else 0)]) rfl ?_
  refine j_if_ne X 11 dX4_event_6 (by decide) (fun c135 => ?_) (fun c135 => ?_)
  · skip
    refine j_iload_n X 1 dX4_event_11 rfl rfl ?_
    refine j_if_ne X 22 dX4_event_12 (by decide) (fun c136 => ?_) (fun c136 => ?_)
    · skip
      refine j_aload_n X 0 dX4_event_22 rfl rfl ?_
      refine j_get X hx rfl iwX4_event_X4 1 (by decide) lkX4_event_16 rfl dX4_event_23 ?_
      refine j_astore X dX4_event_26 (by decide) rfl (L' := [some (.ref x), some (.int 1), some (.int (nI j)), some (.int v), some (.ref (x + 5))]) rfl ?_
      refine j_iload_n X 3 dX4_event_28 rfl rfl ?_
      by_cases c137 : v = 0
      · skip
        refine j_tableIn X 56 dX4_event_29 (by rw [c137]; decide) (by rw [c137]; decide) (off := 27) (by rw [c137]; decide) (by decide) ?_
        refine j_aload X dX4_event_56 rfl ?_
        refine j_iload_n X 2 dX4_event_58 rfl rfl ?_
        refine j_callV X nwSQ_ok (As := [.int (nI j)]) (rest := []) he.cell rfl rfl (c_X0_timeT l D hI b0 he hj hev) rfl gX4_event_X0_time ⟨rfl, ddX0_time⟩ ⟨Nat.le_of_ble_eq_true rfl, Nat.le_of_ble_eq_true rfl⟩ (Nat.le_of_ble_eq_true rfl) rfl dX4_event_59 ⟨(by show 0 + 0 ≤ 0; omega), (by show 0 + 0 ≤ 0; omega)⟩ (fun r138 M139 n140 hr141 => ?_)
        obtain ⟨rfl, rfl, rfl⟩ := hr141
        refine j_st (st := [.int ev.1]) rfl ?_
        exact j_iret X hlk hr (by omega) (by omega) dX4_event_62 ⟨congrArg (fun z => some (Value.int z)) (if_pos c137).symm, rfl, rfl⟩
      by_cases c142 : v = 1
      · skip
        refine j_tableIn X 63 dX4_event_29 (by rw [c142]; decide) (by rw [c142]; decide) (off := 34) (by rw [c142]; decide) (by decide) ?_
        refine j_aload X dX4_event_63 rfl ?_
        refine j_iload_n X 2 dX4_event_65 rfl rfl ?_
        refine j_callV X nwSQ_ok (As := [.int (nI j)]) (rest := []) he.cell rfl rfl (c_X0_keyT l D hI b0 he hj hev) rfl gX4_event_X0_key ⟨rfl, ddX0_key⟩ ⟨Nat.le_of_ble_eq_true rfl, Nat.le_of_ble_eq_true rfl⟩ (Nat.le_of_ble_eq_true rfl) rfl dX4_event_66 ⟨(by show 0 + 0 ≤ 0; omega), (by show 0 + 0 ≤ 0; omega)⟩ (fun r143 M144 n145 hr146 => ?_)
        obtain ⟨rfl, rfl, rfl⟩ := hr146
        refine j_st (st := [.int ev.2.1]) rfl ?_
        exact j_iret X hlk hr (by omega) (by omega) dX4_event_69 ⟨congrArg (fun z => some (Value.int z)) ((if_neg (by rw [c142]; decide)).trans (if_pos c142)).symm, rfl, rfl⟩
      by_cases c147 : v = 2
      · skip
        refine j_tableIn X 70 dX4_event_29 (by rw [c147]; decide) (by rw [c147]; decide) (off := 41) (by rw [c147]; decide) (by decide) ?_
        refine j_aload X dX4_event_70 rfl ?_
        refine j_iload_n X 2 dX4_event_72 rfl rfl ?_
        refine j_callV X nwSQ_ok (As := [.int (nI j)]) (rest := []) he.cell rfl rfl (c_X0_valueT l D hI b0 he hj hev) rfl gX4_event_X0_value ⟨rfl, ddX0_value⟩ ⟨Nat.le_of_ble_eq_true rfl, Nat.le_of_ble_eq_true rfl⟩ (Nat.le_of_ble_eq_true rfl) rfl dX4_event_73 ⟨(by show 0 + 0 ≤ 0; omega), (by show 0 + 0 ≤ 0; omega)⟩ (fun r148 M149 n150 hr151 => ?_)
        obtain ⟨rfl, rfl, rfl⟩ := hr151
        refine j_st (st := [.int ev.2.2]) rfl ?_
        exact j_iret X hlk hr (by omega) (by omega) dX4_event_76 ⟨congrArg (fun z => some (Value.int z)) ((if_neg (by rw [c147]; decide)).trans ((if_neg (by rw [c147]; decide)).trans (if_pos c147))).symm, rfl, rfl⟩
      · skip
        refine j_tableOut X 77 dX4_event_29 (by have q0 := lv_neT (a := 0) c137 (by decide); have q1 := lv_neT (a := 1) c142 (by decide); have q2 := lv_neT (a := 2) c147 (by decide); omega) (by decide) ?_
        refine j_iconst X dX4_event_77 (v := 0) (by decide) ?_
        exact j_iret X hlk hr (by omega) (by omega) dX4_event_78 ⟨congrArg (fun z => some (Value.int z)) ((if_neg c137).trans ((if_neg c142).trans (if_neg c147))).symm, rfl, rfl⟩
    · skip
      exact absurd c136 (by decide)
  · skip
    exact absurd c135 (by decide)
set_option maxHeartbeats 800000 in
set_option maxRecDepth 100000 in
theorem c_X4_eventBF (l : Launch) (D : va_G) {ty : jT} {cA : ClassId} (hI : ty[0]? = some (cA, .int)) (b0 : Nat) {M : jM} {n x : Nat} {w sl la sp rm ln mA mB lt pr tl tk : Int32} (hx : M x = some (sqO x w sl la sp rm ln mA mB lt pr tl tk)) {le : List Ev} (he : EvAt M (x + 5) le) {i : Int32} (hi : i < 0 ∨ nI le.length ≤ i) (v : Int32) : Ct l D ty vwCl nwSQ b0 yX4_event wsX4_event 2 42 0 0 [.ref x, .int 1, .int i, .int v] M n (j_rd (.int 0) M n) := by
  have hx : M x = some (.inr (4, [.ref (x + 1), .ref (x + 5), .ref (x + 9), .ref (x + 11), .int w, .int sl, .int la, .int sp, .int rm, .int ln, .int mA, .int mB, .int lt, .int pr, .int tl, .int tk])) := hx
  refine j_start (cc := cX4_event) (maxL := 5) (ret := (some .int)) (by decide) rfl [some (.ref x), some (.int 1), some (.int i), some (.int v), none] (Nat.le_of_ble_eq_true rfl) rfl ?_
  intro p e s m below meth c X hlk hr hnm
  refine j_iload_n X 1 dX4_event_0 rfl rfl ?_
  refine j_iconst X dX4_event_1 (v := 0) (by decide) ?_
  refine j_iconst X dX4_event_2 (v := 1) (by decide) ?_
  refine j_callS X nwSQ_ok (As := [.int 1, .int 0, .int 1]) (rest := []) rfl (c_X4_isWithin l D hI b0 1 0 1) rfl gX4_event_X4_isWithin ddX4_isWithin ⟨Nat.le_of_ble_eq_true rfl, Nat.le_of_ble_eq_true rfl⟩ (Nat.le_of_ble_eq_true rfl) rfl dX4_event_3 ⟨(by show 0 + 0 ≤ 0; omega), (by show 0 + 0 ≤ 0; omega)⟩ (fun r152 M153 n154 hr155 => ?_)
  obtain ⟨rfl, rfl, rfl⟩ := hr155
  refine j_st (st := [.int (if 0 ≤ 1 ∧ 1 ≤ 1 then 1 else 0)]) rfl ?_
  refine j_if_ne X 11 dX4_event_6 (by decide) (fun c156 => ?_) (fun c156 => ?_)
  · skip
    refine j_iload_n X 1 dX4_event_11 rfl rfl ?_
    refine j_if_ne X 22 dX4_event_12 (by decide) (fun c157 => ?_) (fun c157 => ?_)
    · skip
      refine j_aload_n X 0 dX4_event_22 rfl rfl ?_
      refine j_get X hx rfl iwX4_event_X4 1 (by decide) lkX4_event_16 rfl dX4_event_23 ?_
      refine j_astore X dX4_event_26 (by decide) rfl (L' := [some (.ref x), some (.int 1), some (.int i), some (.int v), some (.ref (x + 5))]) rfl ?_
      refine j_iload_n X 3 dX4_event_28 rfl rfl ?_
      by_cases c158 : v = 0
      · skip
        refine j_tableIn X 56 dX4_event_29 (by rw [c158]; decide) (by rw [c158]; decide) (off := 27) (by rw [c158]; decide) (by decide) ?_
        refine j_aload X dX4_event_56 rfl ?_
        refine j_iload_n X 2 dX4_event_58 rfl rfl ?_
        refine j_callV X nwSQ_ok (As := [.int i]) (rest := []) he.cell rfl rfl (c_X0_timeF l D hI b0 he hi) rfl gX4_event_X0_time ⟨rfl, ddX0_time⟩ ⟨Nat.le_of_ble_eq_true rfl, Nat.le_of_ble_eq_true rfl⟩ (Nat.le_of_ble_eq_true rfl) rfl dX4_event_59 ⟨(by show 0 + 0 ≤ 0; omega), (by show 0 + 0 ≤ 0; omega)⟩ (fun r159 M160 n161 hr162 => ?_)
        obtain ⟨rfl, rfl, rfl⟩ := hr162
        refine j_st (st := [.int 0]) rfl ?_
        exact j_iret X hlk hr (by omega) (by omega) dX4_event_62 ⟨rfl, rfl, rfl⟩
      by_cases c163 : v = 1
      · skip
        refine j_tableIn X 63 dX4_event_29 (by rw [c163]; decide) (by rw [c163]; decide) (off := 34) (by rw [c163]; decide) (by decide) ?_
        refine j_aload X dX4_event_63 rfl ?_
        refine j_iload_n X 2 dX4_event_65 rfl rfl ?_
        refine j_callV X nwSQ_ok (As := [.int i]) (rest := []) he.cell rfl rfl (c_X0_keyF l D hI b0 he hi) rfl gX4_event_X0_key ⟨rfl, ddX0_key⟩ ⟨Nat.le_of_ble_eq_true rfl, Nat.le_of_ble_eq_true rfl⟩ (Nat.le_of_ble_eq_true rfl) rfl dX4_event_66 ⟨(by show 0 + 0 ≤ 0; omega), (by show 0 + 0 ≤ 0; omega)⟩ (fun r164 M165 n166 hr167 => ?_)
        obtain ⟨rfl, rfl, rfl⟩ := hr167
        refine j_st (st := [.int 0]) rfl ?_
        exact j_iret X hlk hr (by omega) (by omega) dX4_event_69 ⟨rfl, rfl, rfl⟩
      by_cases c168 : v = 2
      · skip
        refine j_tableIn X 70 dX4_event_29 (by rw [c168]; decide) (by rw [c168]; decide) (off := 41) (by rw [c168]; decide) (by decide) ?_
        refine j_aload X dX4_event_70 rfl ?_
        refine j_iload_n X 2 dX4_event_72 rfl rfl ?_
        refine j_callV X nwSQ_ok (As := [.int i]) (rest := []) he.cell rfl rfl (c_X0_valueF l D hI b0 he hi) rfl gX4_event_X0_value ⟨rfl, ddX0_value⟩ ⟨Nat.le_of_ble_eq_true rfl, Nat.le_of_ble_eq_true rfl⟩ (Nat.le_of_ble_eq_true rfl) rfl dX4_event_73 ⟨(by show 0 + 0 ≤ 0; omega), (by show 0 + 0 ≤ 0; omega)⟩ (fun r169 M170 n171 hr172 => ?_)
        obtain ⟨rfl, rfl, rfl⟩ := hr172
        refine j_st (st := [.int 0]) rfl ?_
        exact j_iret X hlk hr (by omega) (by omega) dX4_event_76 ⟨rfl, rfl, rfl⟩
      · skip
        refine j_tableOut X 77 dX4_event_29 (by have q0 := lv_neT (a := 0) c158 (by decide); have q1 := lv_neT (a := 1) c163 (by decide); have q2 := lv_neT (a := 2) c168 (by decide); omega) (by decide) ?_
        refine j_iconst X dX4_event_77 (v := 0) (by decide) ?_
        exact j_iret X hlk hr (by omega) (by omega) dX4_event_78 ⟨rfl, rfl, rfl⟩
    · skip
      exact absurd c157 (by decide)
  · skip
    exact absurd c156 (by decide)
set_option maxHeartbeats 800000 in
set_option maxRecDepth 100000 in
theorem c_X4_eventN (l : Launch) (D : va_G) {ty : jT} {cA : ClassId} (hI : ty[0]? = some (cA, .int)) (b0 : Nat) {M : jM} {n x : Nat} {w sl la sp rm ln mA mB lt pr tl tk : Int32} (hx : M x = some (sqO x w sl la sp rm ln mA mB lt pr tl tk)) {z : Int32} (hz : ¬ (0 ≤ z ∧ z ≤ 1)) (i v : Int32) : Ct l D ty vwCl nwSQ b0 yX4_event wsX4_event 2 42 0 0 [.ref x, .int z, .int i, .int v] M n (j_rd (.int 0) M n) := by
  have hx : M x = some (.inr (4, [.ref (x + 1), .ref (x + 5), .ref (x + 9), .ref (x + 11), .int w, .int sl, .int la, .int sp, .int rm, .int ln, .int mA, .int mB, .int lt, .int pr, .int tl, .int tk])) := hx
  refine j_start (cc := cX4_event) (maxL := 5) (ret := (some .int)) (by decide) rfl [some (.ref x), some (.int z), some (.int i), some (.int v), none] (Nat.le_of_ble_eq_true rfl) rfl ?_
  intro p e s m below meth c X hlk hr hnm
  refine j_iload_n X 1 dX4_event_0 rfl rfl ?_
  refine j_iconst X dX4_event_1 (v := 0) (by decide) ?_
  refine j_iconst X dX4_event_2 (v := 1) (by decide) ?_
  refine j_callS X nwSQ_ok (As := [.int z, .int 0, .int 1]) (rest := []) rfl (c_X4_isWithin l D hI b0 z 0 1) rfl gX4_event_X4_isWithin ddX4_isWithin ⟨Nat.le_of_ble_eq_true rfl, Nat.le_of_ble_eq_true rfl⟩ (Nat.le_of_ble_eq_true rfl) rfl dX4_event_3 ⟨(by show 0 + 0 ≤ 0; omega), (by show 0 + 0 ≤ 0; omega)⟩ (fun r173 M174 n175 hr176 => ?_)
  obtain ⟨rfl, rfl, rfl⟩ := hr176
  refine j_st (st := [.int (if 0 ≤ z ∧ z ≤ 1 then 1 else 0)]) rfl ?_
  refine j_if_ne X 11 dX4_event_6 (by decide) (fun c177 => ?_) (fun c177 => ?_)
  · skip
    exact absurd (zo_ne.mp c177) hz
  · skip
    refine j_iconst X dX4_event_9 (v := 0) (by decide) ?_
    exact j_iret X hlk hr (by omega) (by omega) dX4_event_10 ⟨rfl, rfl, rfl⟩
set_option maxHeartbeats 800000 in
set_option maxRecDepth 100000 in
theorem c_X4_count (l : Launch) (D : va_G) {ty : jT} {cA : ClassId} (hI : ty[0]? = some (cA, .int)) (b0 : Nat) {M : jM} {n x nb : Nat} {w sl la sp rm ln mA mB lt pr tl tk : Int32} {A B : List Ev} {cs : List Nd} {qu : List Rec} (h : SQ M x nb w sl la sp rm ln mA mB lt pr tl tk A B cs qu) (v : Int32) : Ct l D ty vwCl nwSQ b0 yX4_count wsX4_count 1 24 0 0 [.ref x, .int v] M n (j_rd (.int (cntv v (nI A.length) (nI B.length) lt mA mB (nI (wcn 2147483647 (-2147483648) cs)) pr tl tk)) M n) := by
  obtain ⟨hx, hA, hB, hG, hQ, hnd, hnb, hxn⟩ := id h
  have hx : M x = some (.inr (4, [.ref (x + 1), .ref (x + 5), .ref (x + 9), .ref (x + 11), .int w, .int sl, .int la, .int sp, .int rm, .int ln, .int mA, .int mB, .int lt, .int pr, .int tl, .int tk])) := hx
  refine j_start (cc := cX4_count) (maxL := 2) (ret := (some .int)) (by decide) rfl [some (.ref x), some (.int v)] (Nat.le_of_ble_eq_true rfl) rfl ?_
  intro p e s m below meth c X hlk hr hnm
  refine j_iload_n X 1 dX4_count_0 rfl rfl ?_
  by_cases c178 : v = 0
  · skip
    refine j_tableIn X 52 dX4_count_1 (by rw [c178]; decide) (by rw [c178]; decide) (off := 51) (by rw [c178]; decide) (by decide) ?_
    refine j_aload_n X 0 dX4_count_52 rfl rfl ?_
    refine j_get X hx rfl iwX4_count_X4 0 (by decide) lkX4_count_10 rfl dX4_count_53 ?_
    refine j_callV X nwSQ_ok (As := []) (rest := []) hA.cell rfl rfl (c_X0_size l D hI b0 hA) rfl gX4_count_X0_size ⟨rfl, ddX0_size⟩ ⟨Nat.le_of_ble_eq_true rfl, Nat.le_of_ble_eq_true rfl⟩ (Nat.le_of_ble_eq_true rfl) rfl dX4_count_56 ⟨(by show 0 + 0 ≤ 0; omega), (by show 0 + 0 ≤ 0; omega)⟩ (fun r179 M180 n181 hr182 => ?_)
    obtain ⟨rfl, rfl, rfl⟩ := hr182
    refine j_st (st := [.int (nI A.length)]) rfl ?_
    exact j_iret X hlk hr (by omega) (by omega) dX4_count_59 ⟨by unfold cntv; rw [c178]; rfl, rfl, rfl⟩
  by_cases c183 : v = 1
  · skip
    refine j_tableIn X 60 dX4_count_1 (by rw [c183]; decide) (by rw [c183]; decide) (off := 59) (by rw [c183]; decide) (by decide) ?_
    refine j_aload_n X 0 dX4_count_60 rfl rfl ?_
    refine j_get X hx rfl iwX4_count_X4 1 (by decide) lkX4_count_16 rfl dX4_count_61 ?_
    refine j_callV X nwSQ_ok (As := []) (rest := []) hB.cell rfl rfl (c_X0_size l D hI b0 hB) rfl gX4_count_X0_size ⟨rfl, ddX0_size⟩ ⟨Nat.le_of_ble_eq_true rfl, Nat.le_of_ble_eq_true rfl⟩ (Nat.le_of_ble_eq_true rfl) rfl dX4_count_64 ⟨(by show 0 + 0 ≤ 0; omega), (by show 0 + 0 ≤ 0; omega)⟩ (fun r184 M185 n186 hr187 => ?_)
    obtain ⟨rfl, rfl, rfl⟩ := hr187
    refine j_st (st := [.int (nI B.length)]) rfl ?_
    exact j_iret X hlk hr (by omega) (by omega) dX4_count_67 ⟨by unfold cntv; rw [c183]; rfl, rfl, rfl⟩
  by_cases c188 : v = 2
  · skip
    refine j_tableIn X 68 dX4_count_1 (by rw [c188]; decide) (by rw [c188]; decide) (off := 67) (by rw [c188]; decide) (by decide) ?_
    refine j_aload_n X 0 dX4_count_68 rfl rfl ?_
    refine j_get X hx rfl iwX4_count_X4 12 (by decide) lkX4_count_144 rfl dX4_count_69 ?_
    exact j_iret X hlk hr (by omega) (by omega) dX4_count_72 ⟨by unfold cntv; rw [c188]; rfl, rfl, rfl⟩
  by_cases c189 : v = 3
  · skip
    refine j_tableIn X 73 dX4_count_1 (by rw [c189]; decide) (by rw [c189]; decide) (off := 72) (by rw [c189]; decide) (by decide) ?_
    refine j_aload_n X 0 dX4_count_73 rfl rfl ?_
    refine j_get X hx rfl iwX4_count_X4 10 (by decide) lkX4_count_97 rfl dX4_count_74 ?_
    exact j_iret X hlk hr (by omega) (by omega) dX4_count_77 ⟨by unfold cntv; rw [c189]; rfl, rfl, rfl⟩
  by_cases c190 : v = 4
  · skip
    refine j_tableIn X 78 dX4_count_1 (by rw [c190]; decide) (by rw [c190]; decide) (off := 77) (by rw [c190]; decide) (by decide) ?_
    refine j_aload_n X 0 dX4_count_78 rfl rfl ?_
    refine j_get X hx rfl iwX4_count_X4 11 (by decide) lkX4_count_104 rfl dX4_count_79 ?_
    exact j_iret X hlk hr (by omega) (by omega) dX4_count_82 ⟨by unfold cntv; rw [c190]; rfl, rfl, rfl⟩
  by_cases c191 : v = 5
  · skip
    refine j_tableIn X 83 dX4_count_1 (by rw [c191]; decide) (by rw [c191]; decide) (off := 82) (by rw [c191]; decide) (by decide) ?_
    refine j_aload_n X 0 dX4_count_83 rfl rfl ?_
    refine j_get X hx rfl iwX4_count_X4 2 (by decide) lkX4_count_22 rfl dX4_count_84 ?_
    refine j_ldc X dX4_count_87 wdX4_count_c149 ?_
    refine j_callV X nwSQ_ok (As := [.int 2147483647]) (rest := []) hG.1 rfl rfl (c_X2_windowsUpTo l D hI b0 hG 2147483647) rfl gX4_count_X2_windowsUpTo ⟨rfl, ddX2_windowsUpTo⟩ ⟨Nat.le_of_ble_eq_true rfl, Nat.le_of_ble_eq_true rfl⟩ (Nat.le_of_ble_eq_true rfl) rfl dX4_count_89 ⟨(by show 0 + 0 ≤ 0; omega), (by show 0 + 0 ≤ 0; omega)⟩ (fun r192 M193 n194 hr195 => ?_)
    obtain ⟨rfl, rfl, rfl⟩ := hr195
    refine j_st (st := [.int (nI (wcn 2147483647 (-2147483648) cs))]) rfl ?_
    exact j_iret X hlk hr (by omega) (by omega) dX4_count_92 ⟨by unfold cntv; rw [c191]; rfl, rfl, rfl⟩
  by_cases c196 : v = 6
  · skip
    refine j_tableIn X 93 dX4_count_1 (by rw [c196]; decide) (by rw [c196]; decide) (off := 92) (by rw [c196]; decide) (by decide) ?_
    refine j_aload_n X 0 dX4_count_93 rfl rfl ?_
    refine j_get X hx rfl iwX4_count_X4 13 (by decide) lkX4_count_153 rfl dX4_count_94 ?_
    exact j_iret X hlk hr (by omega) (by omega) dX4_count_97 ⟨by unfold cntv; rw [c196]; rfl, rfl, rfl⟩
  by_cases c197 : v = 7
  · skip
    refine j_tableIn X 98 dX4_count_1 (by rw [c197]; decide) (by rw [c197]; decide) (off := 97) (by rw [c197]; decide) (by decide) ?_
    refine j_aload_n X 0 dX4_count_98 rfl rfl ?_
    refine j_get X hx rfl iwX4_count_X4 14 (by decide) lkX4_count_156 rfl dX4_count_99 ?_
    exact j_iret X hlk hr (by omega) (by omega) dX4_count_102 ⟨by unfold cntv; rw [c197]; rfl, rfl, rfl⟩
  by_cases c198 : v = 8
  · skip
    refine j_tableIn X 103 dX4_count_1 (by rw [c198]; decide) (by rw [c198]; decide) (off := 102) (by rw [c198]; decide) (by decide) ?_
    refine j_aload_n X 0 dX4_count_103 rfl rfl ?_
    refine j_get X hx rfl iwX4_count_X4 15 (by decide) lkX4_count_159 rfl dX4_count_104 ?_
    exact j_iret X hlk hr (by omega) (by omega) dX4_count_107 ⟨by unfold cntv; rw [c198]; rfl, rfl, rfl⟩
  · skip
    refine j_tableOut X 108 dX4_count_1 (by have q0 := lv_neT (a := 0) c178 (by decide); have q1 := lv_neT (a := 1) c183 (by decide); have q2 := lv_neT (a := 2) c188 (by decide); have q3 := lv_neT (a := 3) c189 (by decide); have q4 := lv_neT (a := 4) c190 (by decide); have q5 := lv_neT (a := 5) c191 (by decide); have q6 := lv_neT (a := 6) c196 (by decide); have q7 := lv_neT (a := 7) c197 (by decide); have q8 := lv_neT (a := 8) c198 (by decide); omega) (by decide) ?_
    refine j_bipush X dX4_count_108 (v := (-2)) (by decide) ?_
    exact j_iret X hlk hr (by omega) (by omega) dX4_count_110 ⟨by unfold cntv; rw [if_neg c178, if_neg c183, if_neg c188, if_neg c189, if_neg c190, if_neg c191, if_neg c196, if_neg c197, if_neg c198], rfl, rfl⟩
