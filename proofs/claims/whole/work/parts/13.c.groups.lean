set_option maxHeartbeats 800000 in
set_option maxRecDepth 100000 in
theorem c_X1_isBefore (l : Launch) (D : va_G) {ty : jT} {cA : ClassId} (hI : ty[0]? = some (cA, .int)) (b0 : Nat) {M : jM} {n a : Nat} {g : Grp} {nx : Option Nat} (h : M a = some (gnode g nx)) (e1 k1 : Int32) : Ct l D ty vwCl nwSQ b0 yX1_isBefore wsX1_isBefore 0 0 0 0 [.ref a, .int e1, .int k1] M n (j_rd (.int (if bef g e1 k1 then 1 else 0)) M n) := by
  have h0 : M a = some (.inr (1, [.int g.1, .int g.2.1, .int g.2.2.1, .int g.2.2.2.1, .int g.2.2.2.2, va_rf nx])) := h
  refine j_start (cc := cX1_isBefore) (maxL := 3) (ret := (some .boolean)) (by decide) rfl [some (.ref a), some (.int e1), some (.int k1)] (Nat.le_of_ble_eq_true rfl) rfl ?_
  intro p e s m below meth c X hlk hr hnm
  refine j_aload_n X 0 dX1_isBefore_0 rfl rfl ?_
  refine j_get X h0 rfl iwX1_isBefore_X1 0 (by decide) lkX1_isBefore_22 rfl dX1_isBefore_1 ?_
  refine j_iload_n X 1 dX1_isBefore_4 rfl rfl ?_
  refine j_icmp_lt X 24 dX1_isBefore_5 (by decide) (fun c1 => ?_) (fun c1 => ?_)
  · skip
    refine j_iconst X dX1_isBefore_24 (v := 1) (by decide) ?_
    refine j_goto X 29 dX1_isBefore_25 (by decide) ?_
    exact j_zret X hlk hr (by omega) (by omega) (by decide) dX1_isBefore_29 ⟨congrArg (fun x => some (Value.int x)) (bef_T1 c1).symm, rfl, rfl⟩
  · skip
    refine j_aload_n X 0 dX1_isBefore_8 rfl rfl ?_
    refine j_get X h0 rfl iwX1_isBefore_X1 0 (by decide) lkX1_isBefore_22 rfl dX1_isBefore_9 ?_
    refine j_iload_n X 1 dX1_isBefore_12 rfl rfl ?_
    refine j_icmp_ne X 28 dX1_isBefore_13 (by decide) (fun c2 => ?_) (fun c2 => ?_)
    · skip
      refine j_iconst X dX1_isBefore_28 (v := 0) (by decide) ?_
      exact j_zret X hlk hr (by omega) (by omega) (by decide) dX1_isBefore_29 ⟨congrArg (fun x => some (Value.int x)) (bef_F2 c1 c2).symm, rfl, rfl⟩
    · skip
      refine j_aload_n X 0 dX1_isBefore_16 rfl rfl ?_
      refine j_get X h0 rfl iwX1_isBefore_X1 1 (by decide) lkX1_isBefore_25 rfl dX1_isBefore_17 ?_
      refine j_iload_n X 2 dX1_isBefore_20 rfl rfl ?_
      refine j_icmp_ge X 28 dX1_isBefore_21 (by decide) (fun c3 => ?_) (fun c3 => ?_)
      · skip
        refine j_iconst X dX1_isBefore_28 (v := 0) (by decide) ?_
        exact j_zret X hlk hr (by omega) (by omega) (by decide) dX1_isBefore_29 ⟨congrArg (fun x => some (Value.int x)) (bef_F3 c1 c2 c3).symm, rfl, rfl⟩
      · skip
        refine j_iconst X dX1_isBefore_24 (v := 1) (by decide) ?_
        refine j_goto X 29 dX1_isBefore_25 (by decide) ?_
        exact j_zret X hlk hr (by omega) (by omega) (by decide) dX1_isBefore_29 ⟨congrArg (fun x => some (Value.int x)) (bef_T3 c1 c2 c3).symm, rfl, rfl⟩
set_option maxHeartbeats 800000 in
set_option maxRecDepth 100000 in
theorem c_X1_isOf (l : Launch) (D : va_G) {ty : jT} {cA : ClassId} (hI : ty[0]? = some (cA, .int)) (b0 : Nat) {M : jM} {n a : Nat} {g : Grp} {nx : Option Nat} (h : M a = some (gnode g nx)) (e1 k1 : Int32) : Ct l D ty vwCl nwSQ b0 yX1_isOf wsX1_isOf 0 0 0 0 [.ref a, .int e1, .int k1] M n (j_rd (.int (if isof g e1 k1 then 1 else 0)) M n) := by
  have h0 : M a = some (.inr (1, [.int g.1, .int g.2.1, .int g.2.2.1, .int g.2.2.2.1, .int g.2.2.2.2, va_rf nx])) := h
  refine j_start (cc := cX1_isOf) (maxL := 3) (ret := (some .boolean)) (by decide) rfl [some (.ref a), some (.int e1), some (.int k1)] (Nat.le_of_ble_eq_true rfl) rfl ?_
  intro p e s m below meth c X hlk hr hnm
  refine j_aload_n X 0 dX1_isOf_0 rfl rfl ?_
  refine j_get X h0 rfl iwX1_isOf_X1 0 (by decide) lkX1_isOf_22 rfl dX1_isOf_1 ?_
  refine j_iload_n X 1 dX1_isOf_4 rfl rfl ?_
  refine j_icmp_ne X 20 dX1_isOf_5 (by decide) (fun c4 => ?_) (fun c4 => ?_)
  · skip
    refine j_iconst X dX1_isOf_20 (v := 0) (by decide) ?_
    exact j_zret X hlk hr (by omega) (by omega) (by decide) dX1_isOf_21 ⟨by simp [isof, c4], rfl, rfl⟩
  · skip
    refine j_aload_n X 0 dX1_isOf_8 rfl rfl ?_
    refine j_get X h0 rfl iwX1_isOf_X1 1 (by decide) lkX1_isOf_25 rfl dX1_isOf_9 ?_
    refine j_iload_n X 2 dX1_isOf_12 rfl rfl ?_
    refine j_icmp_ne X 20 dX1_isOf_13 (by decide) (fun c5 => ?_) (fun c5 => ?_)
    · skip
      refine j_iconst X dX1_isOf_20 (v := 0) (by decide) ?_
      exact j_zret X hlk hr (by omega) (by omega) (by decide) dX1_isOf_21 ⟨by simp [isof, c4, c5], rfl, rfl⟩
    · skip
      refine j_iconst X dX1_isOf_16 (v := 1) (by decide) ?_
      refine j_goto X 21 dX1_isOf_17 (by decide) ?_
      exact j_zret X hlk hr (by omega) (by omega) (by decide) dX1_isOf_21 ⟨by simp [isof, c4, c5], rfl, rfl⟩
set_option maxHeartbeats 800000 in
set_option maxRecDepth 100000 in
theorem c_X1_gather (l : Launch) (D : va_G) {ty : jT} {cA : ClassId} (hI : ty[0]? = some (cA, .int)) (b0 : Nat) {M : jM} {n a : Nat} {g : Grp} {nx : Option Nat} (h : M a = some (gnode g nx)) (v : Int32) : Ct l D ty vwCl nwSQ b0 yX1_gather wsX1_gather 1 21 0 0 [.ref a, .int v] M n (fun r M' n' => r = none ∧ n = n' ∧ M' a = some (gnode (gth g v) nx) ∧ ∀ q, q ≠ a → M' q = M q) := by
  have h0 : M a = some (.inr (1, [.int g.1, .int g.2.1, .int g.2.2.1, .int g.2.2.2.1, .int g.2.2.2.2, va_rf nx])) := h
  refine j_start (cc := cX1_gather) (maxL := 2) (ret := none) (by decide) rfl [some (.ref a), some (.int v)] (Nat.le_of_ble_eq_true rfl) rfl ?_
  intro p e s m below meth c X hlk hr hnm
  refine j_aload_n X 0 dX1_gather_0 rfl rfl ?_
  refine j_dup X dX1_gather_1 rfl ?_
  refine j_get X h0 rfl iwX1_gather_X1 2 (by decide) lkX1_gather_7 rfl dX1_gather_2 ?_
  refine j_iload_n X 1 dX1_gather_5 rfl rfl ?_
  refine j_iadd X dX1_gather_6 ?_
  refine j_put X h0 rfl iwX1_gather_X1 tyX1 tyX1_ok nmX1 2 (by decide) lkX1_gather_7 rfl rfl rfl (Nat.le_of_ble_eq_true rfl) (fs' := [.int g.1, .int g.2.1, .int (g.2.2.1 + v), .int g.2.2.2.1, .int g.2.2.2.2, va_rf nx]) rfl dX1_gather_7 ?_
  generalize eM6 : j_up M a (.inr (1, [.int g.1, .int g.2.1, .int (g.2.2.1 + v), .int g.2.2.2.1, .int g.2.2.2.2, va_rf nx])) = M6
  have h8 : M6 a = some (.inr (1, [.int g.1, .int g.2.1, .int (g.2.2.1 + v), .int g.2.2.2.1, .int g.2.2.2.2, va_rf nx])) := by rw [← eM6]; exact j_up_self _ _ _
  refine j_aload_n X 0 dX1_gather_10 rfl rfl ?_
  refine j_dup X dX1_gather_11 rfl ?_
  refine j_get X h8 rfl iwX1_gather_X1 3 (by decide) lkX1_gather_13 rfl dX1_gather_12 ?_
  refine j_iconst X dX1_gather_15 (v := 1) (by decide) ?_
  refine j_iadd X dX1_gather_16 ?_
  refine j_put X h8 rfl iwX1_gather_X1 tyX1 tyX1_ok nmX1 3 (by decide) lkX1_gather_13 rfl rfl rfl (Nat.le_of_ble_eq_true rfl) (fs' := [.int g.1, .int g.2.1, .int (g.2.2.1 + v), .int (g.2.2.2.1 + 1), .int g.2.2.2.2, va_rf nx]) rfl dX1_gather_17 ?_
  generalize eM9 : j_up M6 a (.inr (1, [.int g.1, .int g.2.1, .int (g.2.2.1 + v), .int (g.2.2.2.1 + 1), .int g.2.2.2.2, va_rf nx])) = M9
  have h11 : M9 a = some (.inr (1, [.int g.1, .int g.2.1, .int (g.2.2.1 + v), .int (g.2.2.2.1 + 1), .int g.2.2.2.2, va_rf nx])) := by rw [← eM9]; exact j_up_self _ _ _
  refine j_aload_n X 0 dX1_gather_20 rfl rfl ?_
  refine j_aload_n X 0 dX1_gather_21 rfl rfl ?_
  refine j_get X h11 rfl iwX1_gather_X1 4 (by decide) lkX1_gather_19 rfl dX1_gather_22 ?_
  refine j_iload_n X 1 dX1_gather_25 rfl rfl ?_
  refine j_max X wdX1_gather_mmax0 wdX1_gather_mmax1 wdX1_gather_mmax2 wdX1_gather_mmax3 (Nat.le_of_ble_eq_true rfl) (Nat.le_of_ble_eq_true rfl) (by omega) (by omega) dX1_gather_26 ?_
  refine j_put X h11 rfl iwX1_gather_X1 tyX1 tyX1_ok nmX1 4 (by decide) lkX1_gather_19 rfl rfl rfl (Nat.le_of_ble_eq_true rfl) (fs' := [.int g.1, .int g.2.1, .int (g.2.2.1 + v), .int (g.2.2.2.1 + 1), .int (if g.2.2.2.2 < v then v else g.2.2.2.2), va_rf nx]) rfl dX1_gather_29 ?_
  generalize eM12 : j_up M9 a (.inr (1, [.int g.1, .int g.2.1, .int (g.2.2.1 + v), .int (g.2.2.2.1 + 1), .int (if g.2.2.2.2 < v then v else g.2.2.2.2), va_rf nx])) = M12
  have h14 : M12 a = some (.inr (1, [.int g.1, .int g.2.1, .int (g.2.2.1 + v), .int (g.2.2.2.1 + 1), .int (if g.2.2.2.2 < v then v else g.2.2.2.2), va_rf nx])) := by rw [← eM12]; exact j_up_self _ _ _
  exact j_vret X hlk hr (by omega) (by omega) dX1_gather_32 ⟨rfl, rfl, h14, fun q hq => by rw [← eM12, j_up_ne _ _ (hq), ← eM9, j_up_ne _ _ (hq), ← eM6, j_up_ne _ _ (hq)]⟩
set_option maxHeartbeats 800000 in
set_option maxRecDepth 100000 in
theorem c_X1_init (l : Launch) (D : va_G) {ty : jT} {cA : ClassId} (hI : ty[0]? = some (cA, .int)) (b0 : Nat) {M : jM} {n a : Nat} {nx : Option Nat} (h0 : M a = some (.inr (1, [.int 0, .int 0, .int 0, .int 0, .int 0, .null]))) (e1 k1 : Int32) : Ct l D ty vwCl nwSQ b0 yX1_init wsX1_init 1 20 0 0 [.ref a, .int e1, .int k1, va_rf nx] M n (fun r M' n' => r = none ∧ n = n' ∧ M' a = some (gnode (e1, k1, 0, 0, -2147483648) nx) ∧ ∀ q, q ≠ a → M' q = M q) := by
  refine j_start (cc := cX1_init) (maxL := 4) (ret := none) (by decide) rfl [some (.ref a), some (.int e1), some (.int k1), some (va_rf nx)] (by cases nx <;> exact Nat.le_of_ble_eq_true rfl) (by cases nx <;> rfl) ?_
  intro p e s m below meth c X hlk hr hnm
  refine j_aload_n X 0 dX1_init_0 rfl rfl ?_
  refine j_objInit X wdX1_init_oi1 wdX1_init_oj wdX1_init_ok dX1_init_1 (Nat.le_of_ble_eq_true rfl) (Nat.le_of_ble_eq_true rfl) ?_
  refine j_aload_n X 0 dX1_init_4 rfl rfl ?_
  refine j_iconst X dX1_init_5 (v := 0) (by decide) ?_
  refine j_put X h0 rfl iwX1_init_X1 tyX1 tyX1_ok nmX1 2 (by decide) lkX1_init_7 rfl rfl rfl (Nat.le_of_ble_eq_true rfl) (fs' := [.int 0, .int 0, .int 0, .int 0, .int 0, .null]) rfl dX1_init_6 ?_
  generalize eM15 : j_up M a (.inr (1, [.int 0, .int 0, .int 0, .int 0, .int 0, .null])) = M15
  have h17 : M15 a = some (.inr (1, [.int 0, .int 0, .int 0, .int 0, .int 0, .null])) := by rw [← eM15]; exact j_up_self _ _ _
  refine j_aload_n X 0 dX1_init_9 rfl rfl ?_
  refine j_iconst X dX1_init_10 (v := 0) (by decide) ?_
  refine j_put X h17 rfl iwX1_init_X1 tyX1 tyX1_ok nmX1 3 (by decide) lkX1_init_13 rfl rfl rfl (Nat.le_of_ble_eq_true rfl) (fs' := [.int 0, .int 0, .int 0, .int 0, .int 0, .null]) rfl dX1_init_11 ?_
  generalize eM18 : j_up M15 a (.inr (1, [.int 0, .int 0, .int 0, .int 0, .int 0, .null])) = M18
  have h20 : M18 a = some (.inr (1, [.int 0, .int 0, .int 0, .int 0, .int 0, .null])) := by rw [← eM18]; exact j_up_self _ _ _
  refine j_aload_n X 0 dX1_init_14 rfl rfl ?_
  refine j_ldc X dX1_init_15 wdX1_init_c18 ?_
  refine j_put X h20 rfl iwX1_init_X1 tyX1 tyX1_ok nmX1 4 (by decide) lkX1_init_19 rfl rfl rfl (Nat.le_of_ble_eq_true rfl) (fs' := [.int 0, .int 0, .int 0, .int 0, .int (-2147483648), .null]) rfl dX1_init_17 ?_
  generalize eM21 : j_up M18 a (.inr (1, [.int 0, .int 0, .int 0, .int 0, .int (-2147483648), .null])) = M21
  have h23 : M21 a = some (.inr (1, [.int 0, .int 0, .int 0, .int 0, .int (-2147483648), .null])) := by rw [← eM21]; exact j_up_self _ _ _
  refine j_aload_n X 0 dX1_init_20 rfl rfl ?_
  refine j_iload_n X 1 dX1_init_21 rfl rfl ?_
  refine j_putF X h23 rfl iwX1_init_X1 tyX1 tyX1_ok nmX1 0 (by decide) lkX1_init_22 rfl hnm rfl rfl rfl (Nat.le_of_ble_eq_true rfl) (fs' := [.int e1, .int 0, .int 0, .int 0, .int (-2147483648), .null]) rfl dX1_init_22 ?_
  generalize eM24 : j_up M21 a (.inr (1, [.int e1, .int 0, .int 0, .int 0, .int (-2147483648), .null])) = M24
  have h26 : M24 a = some (.inr (1, [.int e1, .int 0, .int 0, .int 0, .int (-2147483648), .null])) := by rw [← eM24]; exact j_up_self _ _ _
  refine j_aload_n X 0 dX1_init_25 rfl rfl ?_
  refine j_iload_n X 2 dX1_init_26 rfl rfl ?_
  refine j_putF X h26 rfl iwX1_init_X1 tyX1 tyX1_ok nmX1 1 (by decide) lkX1_init_25 rfl hnm rfl rfl rfl (Nat.le_of_ble_eq_true rfl) (fs' := [.int e1, .int k1, .int 0, .int 0, .int (-2147483648), .null]) rfl dX1_init_27 ?_
  generalize eM27 : j_up M24 a (.inr (1, [.int e1, .int k1, .int 0, .int 0, .int (-2147483648), .null])) = M27
  have h29 : M27 a = some (.inr (1, [.int e1, .int k1, .int 0, .int 0, .int (-2147483648), .null])) := by rw [← eM27]; exact j_up_self _ _ _
  refine j_aload_n X 0 dX1_init_30 rfl rfl ?_
  refine j_aload_nQ X 3 dX1_init_31 rfl rfl ?_
  refine j_put X h29 rfl iwX1_init_X1 tyX1 tyX1_ok nmX1 5 (by decide) lkX1_init_28 rfl (by cases nx <;> rfl) (by cases nx <;> rfl) (Nat.le_of_ble_eq_true rfl) (fs' := [.int e1, .int k1, .int 0, .int 0, .int (-2147483648), va_rf nx]) rfl dX1_init_32 ?_
  generalize eM30 : j_up M27 a (.inr (1, [.int e1, .int k1, .int 0, .int 0, .int (-2147483648), va_rf nx])) = M30
  have h32 : M30 a = some (.inr (1, [.int e1, .int k1, .int 0, .int 0, .int (-2147483648), va_rf nx])) := by rw [← eM30]; exact j_up_self _ _ _
  exact j_vret X hlk hr (by omega) (by omega) dX1_init_35 ⟨rfl, rfl, h32, fun q hq => by rw [← eM30, j_up_ne _ _ (hq), ← eM27, j_up_ne _ _ (hq), ← eM24, j_up_ne _ _ (hq), ← eM21, j_up_ne _ _ (hq), ← eM18, j_up_ne _ _ (hq), ← eM15, j_up_ne _ _ (hq)]⟩
set_option maxHeartbeats 800000 in
set_option maxRecDepth 100000 in
theorem c_X2_lastBefore (l : Launch) (D : va_G) {ty : jT} {cA : ClassId} (hI : ty[0]? = some (cA, .int)) (b0 : Nat) {M : jM} {n : Nat} {x0 : Nd} {t0 : List Nd} (h : Seg M (some x0.1) (x0 :: t0) none) (e1 k1 : Int32) : Ct l D ty vwCl nwSQ b0 yX2_lastBefore wsX2_lastBefore 1 22 0 0 [.ref x0.1, .int e1, .int k1] M n (j_rd (.ref (lb e1 k1 x0 t0).1.1) M n) := by
  refine j_start (cc := cX2_lastBefore) (maxL := 4) (ret := (some (.object "StreamQuery$Group"))) (by decide) rfl [some (.ref x0.1), some (.int e1), some (.int k1), none] (Nat.le_of_ble_eq_true rfl) rfl ?_
  intro p e s m below meth c X hlk hr hnm
  have loop : ∀ (t : List Nd) (x : Nd), Seg M (some x.1) (x :: t) none → lb e1 k1 x t = lb e1 k1 x0 t0 → J p l e { frames := 1, cells := 0, slots := 0, locals := 22 } s m ([.ref x0.1, .int e1, .int k1] : List Value).toArray below meth c D ty vwCl b0 (MQ below (j_Q D ty vwCl b0 (j_rd (.ref (lb e1 k1 x0 t0).1.1) M n)) ([.ref x0.1, .int e1, .int k1] : List Value).toArray s 0 0 (fun q => b0 ≤ q)) 4 M n 0 0 2 [some (.ref x0.1), some (.int e1), some (.int k1), some (.ref x.1)] [] := by
    intro t
    induction t with
    | nil =>
      intro x hs he
      obtain ⟨_, nx, h1, h2⟩ := hs
      cases h2
      have h1 : M x.1 = some (.inr (1, [.int x.2.1, .int x.2.2.1, .int x.2.2.2.1, .int x.2.2.2.2.1, .int x.2.2.2.2.2, .null])) := h1
      refine j_aload_n X 3 dX2_lastBefore_2 rfl rfl ?_
      refine j_getN X h1 rfl iwX2_lastBefore_X1 5 (by decide) lkX2_lastBefore_21 rfl dX2_lastBefore_3 ?_
      refine j_ifnullN X 29 dX2_lastBefore_6 (by decide) ?_
      refine j_aload_n X 3 dX2_lastBefore_29 rfl rfl ?_
      exact j_aret X hlk hr (by omega) (by omega) (r := some x.1) dX2_lastBefore_30 ⟨by rw [← he]; rfl, rfl, rfl⟩
    | cons y t ih =>
      intro x hs he
      obtain ⟨_, nx, h1, h2⟩ := hs
      obtain ⟨rfl, ny, h3, h4⟩ := h2
      have h1 : M x.1 = some (.inr (1, [.int x.2.1, .int x.2.2.1, .int x.2.2.2.1, .int x.2.2.2.2.1, .int x.2.2.2.2.2, .ref y.1])) := h1
      rw [lb_cons] at he
      refine j_aload_n X 3 dX2_lastBefore_2 rfl rfl ?_
      refine j_getN X h1 rfl iwX2_lastBefore_X1 5 (by decide) lkX2_lastBefore_21 rfl dX2_lastBefore_3 ?_
      refine j_ifnullR X dX2_lastBefore_6 ?_
      refine j_aload_n X 3 dX2_lastBefore_9 rfl rfl ?_
      refine j_getN X h1 rfl iwX2_lastBefore_X1 5 (by decide) lkX2_lastBefore_21 rfl dX2_lastBefore_10 ?_
      refine j_iload_n X 1 dX2_lastBefore_13 rfl rfl ?_
      refine j_iload_n X 2 dX2_lastBefore_14 rfl rfl ?_
      refine j_callV X nwSQ_ok (As := [.int e1, .int k1]) (rest := []) h3 rfl rfl (c_X1_isBefore l D hI b0 h3 e1 k1) rfl gX2_lastBefore_X1_isBefore ⟨rfl, ddX1_isBefore⟩ ⟨Nat.le_of_ble_eq_true rfl, Nat.le_of_ble_eq_true rfl⟩ (Nat.le_of_ble_eq_true rfl) rfl dX2_lastBefore_15 ⟨(by show 0 + 0 ≤ 0; omega), (by show 0 + 0 ≤ 0; omega)⟩ (fun r33 M34 n35 hr36 => ?_)
      obtain ⟨rfl, rfl, rfl⟩ := hr36
      refine j_st (st := [.int (if bef y.2 e1 k1 then 1 else 0)]) rfl ?_
      refine j_if_eq X 29 dX2_lastBefore_18 (by decide) (fun c37 => ?_) (fun c37 => ?_)
      · skip
        refine j_aload_n X 3 dX2_lastBefore_29 rfl rfl ?_
        exact j_aret X hlk hr (by omega) (by omega) (r := some x.1) dX2_lastBefore_30 ⟨by rw [if_neg (fun hq => by rw [if_pos hq] at c37; exact absurd c37 (by decide))] at he; rw [← he]; rfl, rfl, rfl⟩
      · skip
        refine j_aload_n X 3 dX2_lastBefore_21 rfl rfl ?_
        refine j_getN X h1 rfl iwX2_lastBefore_X1 5 (by decide) lkX2_lastBefore_21 rfl dX2_lastBefore_22 ?_
        refine j_astore_n X 3 dX2_lastBefore_25 rfl (by decide) rfl (L' := [some (.ref x0.1), some (.int e1), some (.int k1), some (.ref y.1)]) rfl ?_
        refine j_goto X 2 dX2_lastBefore_26 (by decide) ?_
        have hb : bef y.2 e1 k1 = true := by cases hq : bef y.2 e1 k1 <;> simp [hq] at c37 ⊢
        rw [if_pos hb] at he
        exact ih y ⟨rfl, ny, h3, h4⟩ he
  refine j_aload_n X 0 dX2_lastBefore_0 rfl rfl ?_
  refine j_astore_n X 3 dX2_lastBefore_1 rfl (by decide) rfl (L' := [some (.ref x0.1), some (.int e1), some (.int k1), some (.ref x0.1)]) rfl ?_
  exact loop t0 x0 h rfl
set_option maxHeartbeats 800000 in
set_option maxRecDepth 100000 in
theorem c_X2_head (l : Launch) (D : va_G) {ty : jT} {cA : ClassId} (hI : ty[0]? = some (cA, .int)) (b0 : Nat) {M : jM} {n o : Nat} {cs : List Nd} (h : GrAt M o cs) : Ct l D ty vwCl nwSQ b0 yX2_head wsX2_head 0 0 0 0 [.ref o] M n (j_rd (.ref (o + 1)) M n) := by
  obtain ⟨h0, hs0⟩ := id h
  refine j_start (cc := cX2_head) (maxL := 1) (ret := (some (.object "StreamQuery$Group"))) (by decide) rfl [some (.ref o)] (Nat.le_of_ble_eq_true rfl) rfl ?_
  intro p e s m below meth c X hlk hr hnm
  refine j_aload_n X 0 dX2_head_0 rfl rfl ?_
  refine j_get X h0 rfl iwX2_head_X2 0 (by decide) lkX2_head_15 rfl dX2_head_1 ?_
  exact j_aret X hlk hr (by omega) (by omega) (r := some (o + 1)) dX2_head_4 ⟨rfl, rfl, rfl⟩
set_option maxHeartbeats 800000 in
set_option maxRecDepth 100000 in
theorem c_X2_clear (l : Launch) (D : va_G) {ty : jT} {cA : ClassId} (hI : ty[0]? = some (cA, .int)) (b0 : Nat) {M : jM} {n o : Nat} {cs : List Nd} (h : GrAt M o cs) : Ct l D ty vwCl nwSQ b0 yX2_clear wsX2_clear 0 0 0 0 [.ref o] M n (fun r M' n' => r = none ∧ n = n' ∧ GrAt M' o [] ∧ ∀ q, q ≠ o + 1 → M' q = M q) := by
  obtain ⟨h0, hs0⟩ := id h
  obtain ⟨_, nx, h1, hs1⟩ := hs0
  have h1 : M (o + 1) = some (.inr (1, [.int (-2147483648), .int (-2147483648), .int 0, .int 0, .int (-2147483648), va_rf nx])) := h1
  refine j_start (cc := cX2_clear) (maxL := 1) (ret := none) (by decide) rfl [some (.ref o)] (Nat.le_of_ble_eq_true rfl) rfl ?_
  intro p e s m below meth c X hlk hr hnm
  refine j_aload_n X 0 dX2_clear_0 rfl rfl ?_
  refine j_get X h0 rfl iwX2_clear_X2 0 (by decide) lkX2_clear_15 rfl dX2_clear_1 ?_
  refine j_null X dX2_clear_4 ?_
  refine j_putN X h1 rfl iwX2_clear_X1 tyX1 tyX1_ok nmX1 5 (by decide) lkX2_clear_21 rfl rfl rfl (Nat.le_of_ble_eq_true rfl) (fs' := [.int (-2147483648), .int (-2147483648), .int 0, .int 0, .int (-2147483648), .null]) rfl dX2_clear_5 ?_
  generalize eM38 : j_up M (o + 1) (.inr (1, [.int (-2147483648), .int (-2147483648), .int 0, .int 0, .int (-2147483648), .null])) = M38
  have h39 : M38 o = some (.inr (2, [.ref (o + 1)])) := by rw [← eM38, j_up_ne _ _ (by omega)]; exact h0
  have h41 : M38 (o + 1) = some (.inr (1, [.int (-2147483648), .int (-2147483648), .int 0, .int 0, .int (-2147483648), .null])) := by rw [← eM38]; exact j_up_self _ _ _
  exact j_vret X hlk hr (by omega) (by omega) dX2_clear_8 ⟨rfl, rfl, ⟨h39, rfl, none, h41, rfl⟩, fun q hq => by rw [← eM38, j_up_ne _ _ (hq)]⟩
set_option maxHeartbeats 800000 in
set_option maxRecDepth 100000 in
theorem c_X2_init (l : Launch) (D : va_G) {ty : jT} {cA : ClassId} (hI : ty[0]? = some (cA, .int)) (b0 : Nat) {M : jM} {n o : Nat} (hn : n = o + 1) (h0 : M o = some (.inr (2, [.null]))) : Ct l D ty vwCl nwSQ b0 yX2_init wsX2_init 2 43 1 6 [.ref o] M (o + 1) (fun r M' n' => r = none ∧ n' = o + 2 ∧ GrAt M' o [] ∧ ∀ q, (q < o ∨ o + 1 < q) → M' q = M q) := by
  subst hn
  refine j_start (cc := cX2_init) (maxL := 1) (ret := none) (by decide) rfl [some (.ref o)] (Nat.le_of_ble_eq_true rfl) rfl ?_
  intro p e s m below meth c X hlk hr hnm
  refine j_aload_n X 0 dX2_init_0 rfl rfl ?_
  refine j_objInit X wdX2_init_oi1 wdX2_init_oj wdX2_init_ok dX2_init_1 (Nat.le_of_ble_eq_true rfl) (Nat.le_of_ble_eq_true rfl) ?_
  refine j_aload_n X 0 dX2_init_4 rfl rfl ?_
  refine j_new X (ci := 1) (fs := [.int 0, .int 0, .int 0, .int 0, .int 0, .null]) rfl iwX2_init_X1 tyX1 tyX1_ok wdX2_init_cl7 wdX2_init_itX1 wdX2_init_inX1 dfX1 (by decide) (by decide) dX2_init_5 ?_
  generalize eM42 : j_up M (o + 1) (.inr (1, [.int 0, .int 0, .int 0, .int 0, .int 0, .null])) = M42
  have h43 : M42 o = some (.inr (2, [.null])) := by rw [← eM42, j_up_ne _ _ (by omega)]; exact h0
  have h44 : M42 (o + 1) = some (.inr (1, [.int 0, .int 0, .int 0, .int 0, .int 0, .null])) := by rw [← eM42]; exact j_up_self _ _ _
  refine j_dup X dX2_init_8 rfl ?_
  refine j_ldc X dX2_init_9 wdX2_init_c11 ?_
  refine j_ldc X dX2_init_11 wdX2_init_c11 ?_
  refine j_null X dX2_init_13 ?_
  refine j_callI X nwSQ_ok (As := [.int (-2147483648), .int (-2147483648), .null]) (rest := [.ref (o + 1), .ref o]) (b := o + 1) rfl (c_X1_init l D hI b0 h44 (nx := none) (-2147483648) (-2147483648)) rfl rfl gX2_init_X1_init wdX2_init_inX1 wdX2_init_ml12 wdX2_init_imX1_init rfl ddX1_init ⟨Nat.le_of_ble_eq_true rfl, Nat.le_of_ble_eq_true rfl⟩ (Nat.le_of_ble_eq_true rfl) rfl dX2_init_14 ⟨(by show 1 + 0 ≤ 1; omega), (by show 6 + 0 ≤ 6; omega)⟩ (fun r45 M46 n47 hr48 => ?_)
  obtain ⟨rfl, rfl, hg2, hf2⟩ := hr48
  refine j_st (st := [.ref (o + 1), .ref o]) rfl ?_
  have h49 : M46 o = some (.inr (2, [.null])) := by rw [hf2 o (by omega)]; exact h43
  refine j_putF X h49 rfl iwX2_init_X2 tyX2 tyX2_ok nmX2 0 (by decide) lkX2_init_15 rfl hnm rfl rfl rfl (Nat.le_of_ble_eq_true rfl) (fs' := [.ref (o + 1)]) rfl dX2_init_17 ?_
  generalize eM50 : j_up M46 o (.inr (2, [.ref (o + 1)])) = M50
  have h52 : M50 (o + 1) = some (.inr (1, [.int (-2147483648), .int (-2147483648), .int 0, .int 0, .int (-2147483648), .null])) := by rw [← eM50, j_up_ne _ _ (by omega)]; exact hg2
  have h53 : M50 o = some (.inr (2, [.ref (o + 1)])) := by rw [← eM50]; exact j_up_self _ _ _
  exact j_vret X hlk hr (by omega) (by omega) dX2_init_20 ⟨rfl, rfl, ⟨h53, rfl, none, h52, rfl⟩, fun q hq => by rw [← eM50, j_up_ne _ _ (by omega), hf2 _ (by omega), ← eM42, j_up_ne _ _ (by omega)]⟩
set_option maxHeartbeats 800000 in
set_option maxRecDepth 100000 in
theorem c_X2_find (l : Launch) (D : va_G) {ty : jT} {cA : ClassId} (hI : ty[0]? = some (cA, .int)) (b0 : Nat) {M : jM} {n o : Nat} {cs : List Nd} (h : GrAt M o cs) (e1 k1 : Int32) : Ct l D ty vwCl nwSQ b0 yX2_find wsX2_find 2 45 0 0 [.ref o, .int e1, .int k1] M n (j_rd (va_rf (fnd e1 k1 (lb e1 k1 (o + 1, g_hd) cs).2)) M n) := by
  obtain ⟨h0, hs0⟩ := id h
  have hsg := lb_seg (e := e1) (k := k1) (x := (o + 1, g_hd)) hs0
  generalize hR : lb e1 k1 (o + 1, g_hd) cs = R at hsg ⊢
  obtain ⟨x, tl⟩ := R
  obtain ⟨_, nx, hx0, hsx⟩ := hsg
  refine j_start (cc := cX2_find) (maxL := 4) (ret := (some (.object "StreamQuery$Group"))) (by decide) rfl [some (.ref o), some (.int e1), some (.int k1), none] (Nat.le_of_ble_eq_true rfl) rfl ?_
  intro p e s m below meth c X hlk hr hnm
  cases tl with
  | nil =>
    cases hsx
    have hx : M x.1 = some (.inr (1, [.int x.2.1, .int x.2.2.1, .int x.2.2.2.1, .int x.2.2.2.2.1, .int x.2.2.2.2.2, .null])) := hx0
    refine j_aload_n X 0 dX2_find_0 rfl rfl ?_
    refine j_get X h0 rfl iwX2_find_X2 0 (by decide) lkX2_find_15 rfl dX2_find_1 ?_
    refine j_iload_n X 1 dX2_find_4 rfl rfl ?_
    refine j_iload_n X 2 dX2_find_5 rfl rfl ?_
    refine j_callS X nwSQ_ok (As := [.ref (o + 1), .int e1, .int k1]) (rest := []) rfl (c_X2_lastBefore l D hI b0 (x0 := (o + 1, g_hd)) hs0 e1 k1) rfl gX2_find_X2_lastBefore ddX2_lastBefore ⟨Nat.le_of_ble_eq_true rfl, Nat.le_of_ble_eq_true rfl⟩ (Nat.le_of_ble_eq_true rfl) rfl dX2_find_6 ⟨(by show 0 + 0 ≤ 0; omega), (by show 0 + 0 ≤ 0; omega)⟩ (fun r54 M55 n56 hr57 => ?_)
    obtain ⟨rfl, rfl, rfl⟩ := hr57
    refine j_st (st := [.ref x.1]) (by rw [hR]; rfl) ?_
    refine j_getN X hx rfl iwX2_find_X1 5 (by decide) lkX2_find_21 rfl dX2_find_9 ?_
    refine j_astore_nN X 3 dX2_find_12 rfl (by decide) rfl (L' := [some (.ref o), some (.int e1), some (.int k1), some (.null)]) rfl ?_
    refine j_aload_nN X 3 dX2_find_13 rfl rfl ?_
    refine j_ifnullN X 30 dX2_find_14 (by decide) ?_
    refine j_null X dX2_find_30 ?_
    exact j_aret X hlk hr (by omega) (by omega) (r := none) dX2_find_31 ⟨rfl, rfl, rfl⟩
  | cons y t =>
    obtain ⟨rfl, ny, hy0, hsy⟩ := hsx
    have hx : M x.1 = some (.inr (1, [.int x.2.1, .int x.2.2.1, .int x.2.2.2.1, .int x.2.2.2.2.1, .int x.2.2.2.2.2, .ref y.1])) := hx0
    refine j_aload_n X 0 dX2_find_0 rfl rfl ?_
    refine j_get X h0 rfl iwX2_find_X2 0 (by decide) lkX2_find_15 rfl dX2_find_1 ?_
    refine j_iload_n X 1 dX2_find_4 rfl rfl ?_
    refine j_iload_n X 2 dX2_find_5 rfl rfl ?_
    refine j_callS X nwSQ_ok (As := [.ref (o + 1), .int e1, .int k1]) (rest := []) rfl (c_X2_lastBefore l D hI b0 (x0 := (o + 1, g_hd)) hs0 e1 k1) rfl gX2_find_X2_lastBefore ddX2_lastBefore ⟨Nat.le_of_ble_eq_true rfl, Nat.le_of_ble_eq_true rfl⟩ (Nat.le_of_ble_eq_true rfl) rfl dX2_find_6 ⟨(by show 0 + 0 ≤ 0; omega), (by show 0 + 0 ≤ 0; omega)⟩ (fun r58 M59 n60 hr61 => ?_)
    obtain ⟨rfl, rfl, rfl⟩ := hr61
    refine j_st (st := [.ref x.1]) (by rw [hR]; rfl) ?_
    refine j_getN X hx rfl iwX2_find_X1 5 (by decide) lkX2_find_21 rfl dX2_find_9 ?_
    refine j_astore_n X 3 dX2_find_12 rfl (by decide) rfl (L' := [some (.ref o), some (.int e1), some (.int k1), some (.ref y.1)]) rfl ?_
    refine j_aload_n X 3 dX2_find_13 rfl rfl ?_
    refine j_ifnullR X dX2_find_14 ?_
    refine j_aload_n X 3 dX2_find_17 rfl rfl ?_
    refine j_iload_n X 1 dX2_find_18 rfl rfl ?_
    refine j_iload_n X 2 dX2_find_19 rfl rfl ?_
    refine j_callV X nwSQ_ok (As := [.int e1, .int k1]) (rest := []) hy0 rfl rfl (c_X1_isOf l D hI b0 hy0 e1 k1) rfl gX2_find_X1_isOf ⟨rfl, ddX1_isOf⟩ ⟨Nat.le_of_ble_eq_true rfl, Nat.le_of_ble_eq_true rfl⟩ (Nat.le_of_ble_eq_true rfl) rfl dX2_find_20 ⟨(by show 0 + 0 ≤ 0; omega), (by show 0 + 0 ≤ 0; omega)⟩ (fun r62 M63 n64 hr65 => ?_)
    obtain ⟨rfl, rfl, rfl⟩ := hr65
    refine j_st (st := [.int (if isof y.2 e1 k1 then 1 else 0)]) rfl ?_
    refine j_if_eq X 30 dX2_find_23 (by decide) (fun c66 => ?_) (fun c66 => ?_)
    · skip
      refine j_null X dX2_find_30 ?_
      exact j_aret X hlk hr (by omega) (by omega) (r := none) dX2_find_31 ⟨by cases hb : isof y.2 e1 k1 <;> simp [fnd, hb] at c66 ⊢, rfl, rfl⟩
    · skip
      refine j_aload_n X 3 dX2_find_26 rfl rfl ?_
      refine j_goto X 31 dX2_find_27 (by decide) ?_
      exact j_aret X hlk hr (by omega) (by omega) (r := some y.1) dX2_find_31 ⟨by cases hb : isof y.2 e1 k1 <;> simp [fnd, hb] at c66 ⊢, rfl, rfl⟩
set_option maxHeartbeats 800000 in
set_option maxRecDepth 100000 in
theorem c_X2_placeFrom (l : Launch) (D : va_G) {ty : jT} {cA : ClassId} (hI : ty[0]? = some (cA, .int)) (b0 : Nat) {M : jM} {n o : Nat} {fs : List Value} (h0 : M o = some (.inr (2, fs))) {x0 : Nd} {t0 : List Nd} (hs0 : Seg M (some x0.1) (x0 :: t0) none) (e1 k1 : Int32) : Ct l D ty vwCl nwSQ b0 yX2_placeFrom wsX2_placeFrom 2 45 1 6 [.ref o, .ref x0.1, .int e1, .int k1] M n (placed M n e1 k1 (lb e1 k1 x0 t0)) := by
  have hsg := lb_seg (e := e1) (k := k1) (x := x0) hs0
  generalize hR : lb e1 k1 x0 t0 = R at hsg ⊢
  obtain ⟨x, tl⟩ := R
  obtain ⟨_, nx, hx0, hsx⟩ := hsg
  refine j_start (cc := cX2_placeFrom) (maxL := 6) (ret := (some (.object "StreamQuery$Group"))) (by decide) rfl [some (.ref o), some (.ref x0.1), some (.int e1), some (.int k1), none, none] (Nat.le_of_ble_eq_true rfl) rfl ?_
  intro p e s m below meth c X hlk hr hnm
  cases tl with
  | nil =>
    refine j_lt hx0 (fun hxl => ?_)
    have hxl : b0 ≤ x.1 ∧ x.1 < n := hxl
    cases hsx
    have hx : M x.1 = some (.inr (1, [.int x.2.1, .int x.2.2.1, .int x.2.2.2.1, .int x.2.2.2.2.1, .int x.2.2.2.2.2, .null])) := hx0
    refine j_aload_n X 1 dX2_placeFrom_0 rfl rfl ?_
    refine j_iload_n X 2 dX2_placeFrom_1 rfl rfl ?_
    refine j_iload_n X 3 dX2_placeFrom_2 rfl rfl ?_
    refine j_callS X nwSQ_ok (As := [.ref x0.1, .int e1, .int k1]) (rest := []) rfl (c_X2_lastBefore l D hI b0 hs0 e1 k1) rfl gX2_placeFrom_X2_lastBefore ddX2_lastBefore ⟨Nat.le_of_ble_eq_true rfl, Nat.le_of_ble_eq_true rfl⟩ (Nat.le_of_ble_eq_true rfl) rfl dX2_placeFrom_3 ⟨(by show 0 + 0 ≤ 1; omega), (by show 0 + 0 ≤ 6; omega)⟩ (fun r67 M68 n69 hr70 => ?_)
    obtain ⟨rfl, rfl, rfl⟩ := hr70
    refine j_st (st := [.ref x.1]) (by rw [hR]; rfl) ?_
    refine j_astore X dX2_placeFrom_6 (by decide) rfl (L' := [some (.ref o), some (.ref x0.1), some (.int e1), some (.int k1), some (.ref x.1), none]) rfl ?_
    refine j_aload X dX2_placeFrom_8 rfl ?_
    refine j_getN X hx rfl iwX2_placeFrom_X1 5 (by decide) lkX2_placeFrom_21 rfl dX2_placeFrom_10 ?_
    refine j_astoreN X dX2_placeFrom_13 (by decide) rfl (L' := [some (.ref o), some (.ref x0.1), some (.int e1), some (.int k1), some (.ref x.1), some (.null)]) rfl ?_
    refine j_aloadN X dX2_placeFrom_15 rfl ?_
    refine j_ifnullN X 30 dX2_placeFrom_17 (by decide) ?_
    refine j_new X (ci := 1) (fs := [.int 0, .int 0, .int 0, .int 0, .int 0, .null]) rfl iwX2_placeFrom_X1 tyX1 tyX1_ok wdX2_placeFrom_cl7 wdX2_placeFrom_itX1 wdX2_placeFrom_inX1 dfX1 (by decide) (by decide) dX2_placeFrom_30 ?_
    generalize eM71 : j_up M n (.inr (1, [.int 0, .int 0, .int 0, .int 0, .int 0, .null])) = M71
    have h72 : M71 x.1 = some (.inr (1, [.int x.2.1, .int x.2.2.1, .int x.2.2.2.1, .int x.2.2.2.2.1, .int x.2.2.2.2.2, .null])) := by rw [← eM71, j_up_ne _ _ (by omega)]; exact hx
    have h73 : M71 n = some (.inr (1, [.int 0, .int 0, .int 0, .int 0, .int 0, .null])) := by rw [← eM71]; exact j_up_self _ _ _
    refine j_dup X dX2_placeFrom_33 rfl ?_
    refine j_iload_n X 2 dX2_placeFrom_34 rfl rfl ?_
    refine j_iload_n X 3 dX2_placeFrom_35 rfl rfl ?_
    refine j_aloadN X dX2_placeFrom_36 rfl ?_
    refine j_callI X nwSQ_ok (As := [.int e1, .int k1, .null]) (rest := [.ref n]) (b := n) rfl (c_X1_init l D hI b0 h73 (nx := none) e1 k1) rfl rfl gX2_placeFrom_X1_init wdX2_placeFrom_inX1 wdX2_placeFrom_ml12 wdX2_placeFrom_imX1_init rfl ddX1_init ⟨Nat.le_of_ble_eq_true rfl, Nat.le_of_ble_eq_true rfl⟩ (Nat.le_of_ble_eq_true rfl) rfl dX2_placeFrom_38 ⟨(by show 1 + 0 ≤ 1; omega), (by show 6 + 0 ≤ 6; omega)⟩ (fun r74 M75 n76 hr77 => ?_)
    obtain ⟨rfl, rfl, hg2, hf2⟩ := hr77
    refine j_st (st := [.ref n]) rfl ?_
    have h78 : M75 x.1 = some (.inr (1, [.int x.2.1, .int x.2.2.1, .int x.2.2.2.1, .int x.2.2.2.2.1, .int x.2.2.2.2.2, .null])) := by rw [hf2 x.1 (by omega)]; exact h72
    refine j_astore X dX2_placeFrom_41 (by decide) rfl (L' := [some (.ref o), some (.ref x0.1), some (.int e1), some (.int k1), some (.ref x.1), some (.ref n)]) rfl ?_
    refine j_aload X dX2_placeFrom_43 rfl ?_
    refine j_aload X dX2_placeFrom_45 rfl ?_
    refine j_putN X h78 rfl iwX2_placeFrom_X1 tyX1 tyX1_ok nmX1 5 (by decide) lkX2_placeFrom_21 rfl rfl rfl (Nat.le_of_ble_eq_true rfl) (fs' := [.int x.2.1, .int x.2.2.1, .int x.2.2.2.1, .int x.2.2.2.2.1, .int x.2.2.2.2.2, .ref n]) rfl dX2_placeFrom_47 ?_
    generalize eM79 : j_up M75 x.1 (.inr (1, [.int x.2.1, .int x.2.2.1, .int x.2.2.2.1, .int x.2.2.2.2.1, .int x.2.2.2.2.2, .ref n])) = M79
    have h81 : M79 n = some (.inr (1, [.int e1, .int k1, .int 0, .int 0, .int (-2147483648), .null])) := by rw [← eM79, j_up_ne _ _ (by omega)]; exact hg2
    have h82 : M79 x.1 = some (.inr (1, [.int x.2.1, .int x.2.2.1, .int x.2.2.2.1, .int x.2.2.2.2.1, .int x.2.2.2.2.2, .ref n])) := by rw [← eM79]; exact j_up_self _ _ _
    refine j_aload X dX2_placeFrom_50 rfl ?_
    exact j_aret X hlk hr (by omega) (by omega) (r := some n) dX2_placeFrom_52 (Or.inr ⟨fun y t hq => (by cases hq), rfl, rfl, h81, h82, fun q h1 h2 => by rw [← eM79, j_up_ne _ _ (by assumption), hf2 _ (by assumption), ← eM71, j_up_ne _ _ (by assumption)]⟩)
  | cons y t =>
    refine j_lt hx0 (fun hxl => ?_)
    have hxl : b0 ≤ x.1 ∧ x.1 < n := hxl
    obtain ⟨rfl, ny, hy0, hsy⟩ := hsx
    have hx : M x.1 = some (.inr (1, [.int x.2.1, .int x.2.2.1, .int x.2.2.2.1, .int x.2.2.2.2.1, .int x.2.2.2.2.2, .ref y.1])) := hx0
    refine j_aload_n X 1 dX2_placeFrom_0 rfl rfl ?_
    refine j_iload_n X 2 dX2_placeFrom_1 rfl rfl ?_
    refine j_iload_n X 3 dX2_placeFrom_2 rfl rfl ?_
    refine j_callS X nwSQ_ok (As := [.ref x0.1, .int e1, .int k1]) (rest := []) rfl (c_X2_lastBefore l D hI b0 hs0 e1 k1) rfl gX2_placeFrom_X2_lastBefore ddX2_lastBefore ⟨Nat.le_of_ble_eq_true rfl, Nat.le_of_ble_eq_true rfl⟩ (Nat.le_of_ble_eq_true rfl) rfl dX2_placeFrom_3 ⟨(by show 0 + 0 ≤ 1; omega), (by show 0 + 0 ≤ 6; omega)⟩ (fun r83 M84 n85 hr86 => ?_)
    obtain ⟨rfl, rfl, rfl⟩ := hr86
    refine j_st (st := [.ref x.1]) (by rw [hR]; rfl) ?_
    refine j_astore X dX2_placeFrom_6 (by decide) rfl (L' := [some (.ref o), some (.ref x0.1), some (.int e1), some (.int k1), some (.ref x.1), none]) rfl ?_
    refine j_aload X dX2_placeFrom_8 rfl ?_
    refine j_getN X hx rfl iwX2_placeFrom_X1 5 (by decide) lkX2_placeFrom_21 rfl dX2_placeFrom_10 ?_
    refine j_astore X dX2_placeFrom_13 (by decide) rfl (L' := [some (.ref o), some (.ref x0.1), some (.int e1), some (.int k1), some (.ref x.1), some (.ref y.1)]) rfl ?_
    refine j_aload X dX2_placeFrom_15 rfl ?_
    refine j_ifnullR X dX2_placeFrom_17 ?_
    refine j_aload X dX2_placeFrom_20 rfl ?_
    refine j_iload_n X 2 dX2_placeFrom_22 rfl rfl ?_
    refine j_iload_n X 3 dX2_placeFrom_23 rfl rfl ?_
    refine j_callV X nwSQ_ok (As := [.int e1, .int k1]) (rest := []) hy0 rfl rfl (c_X1_isOf l D hI b0 hy0 e1 k1) rfl gX2_placeFrom_X1_isOf ⟨rfl, ddX1_isOf⟩ ⟨Nat.le_of_ble_eq_true rfl, Nat.le_of_ble_eq_true rfl⟩ (Nat.le_of_ble_eq_true rfl) rfl dX2_placeFrom_24 ⟨(by show 0 + 0 ≤ 1; omega), (by show 0 + 0 ≤ 6; omega)⟩ (fun r87 M88 n89 hr90 => ?_)
    obtain ⟨rfl, rfl, rfl⟩ := hr90
    refine j_st (st := [.int (if isof y.2 e1 k1 then 1 else 0)]) rfl ?_
    refine j_if_ne X 50 dX2_placeFrom_27 (by decide) (fun c91 => ?_) (fun c91 => ?_)
    · skip
      refine j_aload X dX2_placeFrom_50 rfl ?_
      exact j_aret X hlk hr (by omega) (by omega) (r := some y.1) dX2_placeFrom_52 (Or.inl ⟨y, t, rfl, by cases hb : isof y.2 e1 k1 <;> simp [hb] at c91 ⊢, rfl, rfl, rfl⟩)
    · skip
      refine j_new X (ci := 1) (fs := [.int 0, .int 0, .int 0, .int 0, .int 0, .null]) rfl iwX2_placeFrom_X1 tyX1 tyX1_ok wdX2_placeFrom_cl7 wdX2_placeFrom_itX1 wdX2_placeFrom_inX1 dfX1 (by decide) (by decide) dX2_placeFrom_30 ?_
      generalize eM92 : j_up M n (.inr (1, [.int 0, .int 0, .int 0, .int 0, .int 0, .null])) = M92
      have h93 : M92 x.1 = some (.inr (1, [.int x.2.1, .int x.2.2.1, .int x.2.2.2.1, .int x.2.2.2.2.1, .int x.2.2.2.2.2, .ref y.1])) := by rw [← eM92, j_up_ne _ _ (by omega)]; exact hx
      have h94 : M92 n = some (.inr (1, [.int 0, .int 0, .int 0, .int 0, .int 0, .null])) := by rw [← eM92]; exact j_up_self _ _ _
      refine j_dup X dX2_placeFrom_33 rfl ?_
      refine j_iload_n X 2 dX2_placeFrom_34 rfl rfl ?_
      refine j_iload_n X 3 dX2_placeFrom_35 rfl rfl ?_
      refine j_aload X dX2_placeFrom_36 rfl ?_
      refine j_callI X nwSQ_ok (As := [.int e1, .int k1, .ref y.1]) (rest := [.ref n]) (b := n) rfl (c_X1_init l D hI b0 h94 (nx := (some y.1)) e1 k1) rfl rfl gX2_placeFrom_X1_init wdX2_placeFrom_inX1 wdX2_placeFrom_ml12 wdX2_placeFrom_imX1_init rfl ddX1_init ⟨Nat.le_of_ble_eq_true rfl, Nat.le_of_ble_eq_true rfl⟩ (Nat.le_of_ble_eq_true rfl) rfl dX2_placeFrom_38 ⟨(by show 1 + 0 ≤ 1; omega), (by show 6 + 0 ≤ 6; omega)⟩ (fun r95 M96 n97 hr98 => ?_)
      obtain ⟨rfl, rfl, hg2, hf2⟩ := hr98
      refine j_st (st := [.ref n]) rfl ?_
      have h99 : M96 x.1 = some (.inr (1, [.int x.2.1, .int x.2.2.1, .int x.2.2.2.1, .int x.2.2.2.2.1, .int x.2.2.2.2.2, .ref y.1])) := by rw [hf2 x.1 (by omega)]; exact h93
      refine j_astore X dX2_placeFrom_41 (by decide) rfl (L' := [some (.ref o), some (.ref x0.1), some (.int e1), some (.int k1), some (.ref x.1), some (.ref n)]) rfl ?_
      refine j_aload X dX2_placeFrom_43 rfl ?_
      refine j_aload X dX2_placeFrom_45 rfl ?_
      refine j_putN X h99 rfl iwX2_placeFrom_X1 tyX1 tyX1_ok nmX1 5 (by decide) lkX2_placeFrom_21 rfl rfl rfl (Nat.le_of_ble_eq_true rfl) (fs' := [.int x.2.1, .int x.2.2.1, .int x.2.2.2.1, .int x.2.2.2.2.1, .int x.2.2.2.2.2, .ref n]) rfl dX2_placeFrom_47 ?_
      generalize eM100 : j_up M96 x.1 (.inr (1, [.int x.2.1, .int x.2.2.1, .int x.2.2.2.1, .int x.2.2.2.2.1, .int x.2.2.2.2.2, .ref n])) = M100
      have h102 : M100 n = some (.inr (1, [.int e1, .int k1, .int 0, .int 0, .int (-2147483648), .ref y.1])) := by rw [← eM100, j_up_ne _ _ (by omega)]; exact hg2
      have h103 : M100 x.1 = some (.inr (1, [.int x.2.1, .int x.2.2.1, .int x.2.2.2.1, .int x.2.2.2.2.1, .int x.2.2.2.2.2, .ref n])) := by rw [← eM100]; exact j_up_self _ _ _
      refine j_aload X dX2_placeFrom_50 rfl ?_
      exact j_aret X hlk hr (by omega) (by omega) (r := some n) dX2_placeFrom_52 (Or.inr ⟨fun y t hq => by cases hq; cases hb : isof y.2 e1 k1 <;> simp [hb] at c91 ⊢, rfl, rfl, h102, h103, fun q h1 h2 => by rw [← eM100, j_up_ne _ _ (by assumption), hf2 _ (by assumption), ← eM92, j_up_ne _ _ (by assumption)]⟩)
set_option maxHeartbeats 800000 in
set_option maxRecDepth 100000 in
theorem c_X2_manyUpTo (l : Launch) (D : va_G) {ty : jT} {cA : ClassId} (hI : ty[0]? = some (cA, .int)) (b0 : Nat) {M : jM} {n o : Nat} {cs : List Nd} (h : GrAt M o cs) (e1 : Int32) : Ct l D ty vwCl nwSQ b0 yX2_manyUpTo wsX2_manyUpTo 0 0 0 0 [.ref o, .int e1] M n (j_rd (.int (nI (cs.takeWhile (fun x : Nd => decide (x.2.1 ≤ e1))).length)) M n) := by
  obtain ⟨h0, hs0⟩ := id h
  obtain ⟨_, nx, h1, hs1⟩ := hs0
  have h1 : M (o + 1) = some (.inr (1, [.int (-2147483648), .int (-2147483648), .int 0, .int 0, .int (-2147483648), va_rf nx])) := h1
  refine j_start (cc := cX2_manyUpTo) (maxL := 4) (ret := (some .int)) (by decide) rfl [some (.ref o), some (.int e1), none, none] (Nat.le_of_ble_eq_true rfl) rfl ?_
  intro p e s m below meth c X hlk hr hnm
  have loop : ∀ (t : List Nd) (r : Option Nat) (i : Nat), Seg M r t none → i + (t.takeWhile (fun x : Nd => decide (x.2.1 ≤ e1))).length = (cs.takeWhile (fun x : Nd => decide (x.2.1 ≤ e1))).length → J p l e { frames := 0, cells := 0, slots := 0, locals := 0 } s m ([.ref o, .int e1] : List Value).toArray below meth c D ty vwCl b0 (MQ below (j_Q D ty vwCl b0 (j_rd (.int (nI (cs.takeWhile (fun x : Nd => decide (x.2.1 ≤ e1))).length)) M n)) ([.ref o, .int e1] : List Value).toArray s 0 0 (fun q => b0 ≤ q)) 4 M n 0 0 10 [some (.ref o), some (.int e1), some (.int (nI i)), some (va_rf r)] [] := by
    intro t
    induction t with
    | nil =>
      intro r i hs he
      cases hs
      refine j_aload_nN X 3 dX2_manyUpTo_10 rfl rfl ?_
      refine j_ifnullN X 33 dX2_manyUpTo_11 (by decide) ?_
      refine j_iload_n X 2 dX2_manyUpTo_33 rfl rfl ?_
      exact j_iret X hlk hr (by omega) (by omega) dX2_manyUpTo_34 ⟨by rw [← he]; rfl, rfl, rfl⟩
    | cons y t ih =>
      intro r i hs he
      obtain ⟨rfl, ny, hy0, hsy⟩ := hs
      have hy : M y.1 = some (.inr (1, [.int y.2.1, .int y.2.2.1, .int y.2.2.2.1, .int y.2.2.2.2.1, .int y.2.2.2.2.2, va_rf ny])) := hy0
      refine j_aload_n X 3 dX2_manyUpTo_10 rfl rfl ?_
      refine j_ifnullR X dX2_manyUpTo_11 ?_
      refine j_aload_n X 3 dX2_manyUpTo_14 rfl rfl ?_
      refine j_getN X hy rfl iwX2_manyUpTo_X1 0 (by decide) lkX2_manyUpTo_32 rfl dX2_manyUpTo_15 ?_
      refine j_iload_n X 1 dX2_manyUpTo_18 rfl rfl ?_
      refine j_icmp_gt X 33 dX2_manyUpTo_19 (by decide) (fun c104 => ?_) (fun c104 => ?_)
      · skip
        refine j_iload_n X 2 dX2_manyUpTo_33 rfl rfl ?_
        exact j_iret X hlk hr (by omega) (by omega) dX2_manyUpTo_34 ⟨by rw [List.takeWhile_cons, if_neg (by rw [decide_eq_true_eq]; exact Int32.not_le.mpr c104)] at he; rw [← he]; rfl, rfl, rfl⟩
      · skip
        refine j_iinc X dX2_manyUpTo_22 rfl (v := nI (i + 1)) (nI_1 _) (by decide) rfl (L' := [some (.ref o), some (.int e1), some (.int (nI (i + 1))), some (.ref y.1)]) rfl ?_
        refine j_aload_n X 3 dX2_manyUpTo_25 rfl rfl ?_
        refine j_getN X hy rfl iwX2_manyUpTo_X1 5 (by decide) lkX2_manyUpTo_21 rfl dX2_manyUpTo_26 ?_
        refine j_astore_nQ X 3 dX2_manyUpTo_29 rfl (by decide) rfl (L' := [some (.ref o), some (.int e1), some (.int (nI (i + 1))), some (va_rf ny)]) rfl ?_
        refine j_goto X 10 dX2_manyUpTo_30 (by decide) ?_
        rw [List.takeWhile_cons, if_pos (decide_eq_true (Int32.not_lt.mp c104)), List.length_cons] at he
        exact ih ny (i + 1) hsy (by omega)
  refine j_iconst X dX2_manyUpTo_0 (v := 0) (by decide) ?_
  refine j_istore_n X 2 dX2_manyUpTo_1 rfl (by decide) rfl (L' := [some (.ref o), some (.int e1), some (.int 0), none]) rfl ?_
  refine j_aload_n X 0 dX2_manyUpTo_2 rfl rfl ?_
  refine j_get X h0 rfl iwX2_manyUpTo_X2 0 (by decide) lkX2_manyUpTo_15 rfl dX2_manyUpTo_3 ?_
  refine j_getN X h1 rfl iwX2_manyUpTo_X1 5 (by decide) lkX2_manyUpTo_21 rfl dX2_manyUpTo_6 ?_
  refine j_astore_nQ X 3 dX2_manyUpTo_9 rfl (by decide) rfl (L' := [some (.ref o), some (.int e1), some (.int 0), some (va_rf nx)]) rfl ?_
  exact loop cs nx 0 hs1 (by omega)
set_option maxHeartbeats 800000 in
set_option maxRecDepth 100000 in
theorem c_X2_windowsUpTo (l : Launch) (D : va_G) {ty : jT} {cA : ClassId} (hI : ty[0]? = some (cA, .int)) (b0 : Nat) {M : jM} {n o : Nat} {cs : List Nd} (h : GrAt M o cs) (e1 : Int32) : Ct l D ty vwCl nwSQ b0 yX2_windowsUpTo wsX2_windowsUpTo 0 0 0 0 [.ref o, .int e1] M n (j_rd (.int (nI (wcn e1 (-2147483648) cs))) M n) := by
  obtain ⟨h0, hs0⟩ := id h
  obtain ⟨_, nx, h1, hs1⟩ := hs0
  have h1 : M (o + 1) = some (.inr (1, [.int (-2147483648), .int (-2147483648), .int 0, .int 0, .int (-2147483648), va_rf nx])) := h1
  refine j_start (cc := cX2_windowsUpTo) (maxL := 5) (ret := (some .int)) (by decide) rfl [some (.ref o), some (.int e1), none, none, none] (Nat.le_of_ble_eq_true rfl) rfl ?_
  intro p e s m below meth c X hlk hr hnm
  have loop : ∀ (t : List Nd) (r : Option Nat) (i : Nat) (x : Nd) (nz : Option Nat), M x.1 = some (gnode x.2 nz) → Seg M r t none → i + wcn e1 x.2.1 t = wcn e1 (-2147483648) cs → J p l e { frames := 0, cells := 0, slots := 0, locals := 0 } s m ([.ref o, .int e1] : List Value).toArray below meth c D ty vwCl b0 (MQ below (j_Q D ty vwCl b0 (j_rd (.int (nI (wcn e1 (-2147483648) cs))) M n)) ([.ref o, .int e1] : List Value).toArray s 0 0 (fun q => b0 ≤ q)) 5 M n 0 0 16 [some (.ref o), some (.int e1), some (.int (nI i)), some (.ref x.1), some (va_rf r)] [] := by
    intro t
    induction t with
    | nil =>
      intro r i x nz hxm hs he
      cases hs
      refine j_aloadN X dX2_windowsUpTo_16 rfl ?_
      refine j_ifnullN X 58 dX2_windowsUpTo_18 (by decide) ?_
      refine j_iload_n X 2 dX2_windowsUpTo_58 rfl rfl ?_
      exact j_iret X hlk hr (by omega) (by omega) dX2_windowsUpTo_59 ⟨by rw [← he]; rfl, rfl, rfl⟩
    | cons y t ih =>
      intro r i x nz hxm hs he
      obtain ⟨rfl, ny, hy0, hsy⟩ := hs
      have hy : M y.1 = some (.inr (1, [.int y.2.1, .int y.2.2.1, .int y.2.2.2.1, .int y.2.2.2.2.1, .int y.2.2.2.2.2, va_rf ny])) := hy0
      have hxm2 : M x.1 = some (.inr (1, [.int x.2.1, .int x.2.2.1, .int x.2.2.2.1, .int x.2.2.2.2.1, .int x.2.2.2.2.2, va_rf nz])) := hxm
      rw [wcn_cons] at he
      refine j_aload X dX2_windowsUpTo_16 rfl ?_
      refine j_ifnullR X dX2_windowsUpTo_18 ?_
      refine j_aload X dX2_windowsUpTo_21 rfl ?_
      refine j_getN X hy rfl iwX2_windowsUpTo_X1 0 (by decide) lkX2_windowsUpTo_32 rfl dX2_windowsUpTo_23 ?_
      refine j_iload_n X 1 dX2_windowsUpTo_26 rfl rfl ?_
      refine j_icmp_gt X 58 dX2_windowsUpTo_27 (by decide) (fun c105 => ?_) (fun c105 => ?_)
      · skip
        refine j_iload_n X 2 dX2_windowsUpTo_58 rfl rfl ?_
        exact j_iret X hlk hr (by omega) (by omega) dX2_windowsUpTo_59 ⟨by rw [if_neg (Int32.not_le.mpr c105)] at he; rw [← he]; rfl, rfl, rfl⟩
      · skip
        refine j_aload_n X 3 dX2_windowsUpTo_30 rfl rfl ?_
        refine j_getN X hxm2 rfl iwX2_windowsUpTo_X1 0 (by decide) lkX2_windowsUpTo_32 rfl dX2_windowsUpTo_31 ?_
        refine j_aload X dX2_windowsUpTo_34 rfl ?_
        refine j_getN X hy rfl iwX2_windowsUpTo_X1 0 (by decide) lkX2_windowsUpTo_32 rfl dX2_windowsUpTo_36 ?_
        refine j_icmp_eq X 45 dX2_windowsUpTo_39 (by decide) (fun c106 => ?_) (fun c106 => ?_)
        · skip
          refine j_aload X dX2_windowsUpTo_45 rfl ?_
          refine j_astore_n X 3 dX2_windowsUpTo_47 rfl (by decide) rfl (L' := [some (.ref o), some (.int e1), some (.int (nI i)), some (.ref y.1), some (.ref y.1)]) rfl ?_
          refine j_aload X dX2_windowsUpTo_48 rfl ?_
          refine j_getN X hy rfl iwX2_windowsUpTo_X1 5 (by decide) lkX2_windowsUpTo_21 rfl dX2_windowsUpTo_50 ?_
          refine j_astoreQ X dX2_windowsUpTo_53 (by decide) rfl (L' := [some (.ref o), some (.int e1), some (.int (nI i)), some (.ref y.1), some (va_rf ny)]) rfl ?_
          refine j_goto X 16 dX2_windowsUpTo_55 (by decide) ?_
          rw [if_pos (Int32.not_lt.mp c105), if_pos c106] at he
          exact ih ny i y ny hy0 hsy (by omega)
        · skip
          refine j_iinc X dX2_windowsUpTo_42 rfl (v := nI (i + 1)) (nI_1 _) (by decide) rfl (L' := [some (.ref o), some (.int e1), some (.int (nI (i + 1))), some (.ref x.1), some (.ref y.1)]) rfl ?_
          refine j_aload X dX2_windowsUpTo_45 rfl ?_
          refine j_astore_n X 3 dX2_windowsUpTo_47 rfl (by decide) rfl (L' := [some (.ref o), some (.int e1), some (.int (nI (i + 1))), some (.ref y.1), some (.ref y.1)]) rfl ?_
          refine j_aload X dX2_windowsUpTo_48 rfl ?_
          refine j_getN X hy rfl iwX2_windowsUpTo_X1 5 (by decide) lkX2_windowsUpTo_21 rfl dX2_windowsUpTo_50 ?_
          refine j_astoreQ X dX2_windowsUpTo_53 (by decide) rfl (L' := [some (.ref o), some (.int e1), some (.int (nI (i + 1))), some (.ref y.1), some (va_rf ny)]) rfl ?_
          refine j_goto X 16 dX2_windowsUpTo_55 (by decide) ?_
          rw [if_pos (Int32.not_lt.mp c105), if_neg c106] at he
          exact ih ny (i + 1) y ny hy0 hsy (by omega)
  refine j_iconst X dX2_windowsUpTo_0 (v := 0) (by decide) ?_
  refine j_istore_n X 2 dX2_windowsUpTo_1 rfl (by decide) rfl (L' := [some (.ref o), some (.int e1), some (.int 0), none, none]) rfl ?_
  refine j_aload_n X 0 dX2_windowsUpTo_2 rfl rfl ?_
  refine j_get X h0 rfl iwX2_windowsUpTo_X2 0 (by decide) lkX2_windowsUpTo_15 rfl dX2_windowsUpTo_3 ?_
  refine j_astore_n X 3 dX2_windowsUpTo_6 rfl (by decide) rfl (L' := [some (.ref o), some (.int e1), some (.int 0), some (.ref (o + 1)), none]) rfl ?_
  refine j_aload_n X 0 dX2_windowsUpTo_7 rfl rfl ?_
  refine j_get X h0 rfl iwX2_windowsUpTo_X2 0 (by decide) lkX2_windowsUpTo_15 rfl dX2_windowsUpTo_8 ?_
  refine j_getN X h1 rfl iwX2_windowsUpTo_X1 5 (by decide) lkX2_windowsUpTo_21 rfl dX2_windowsUpTo_11 ?_
  refine j_astoreQ X dX2_windowsUpTo_14 (by decide) rfl (L' := [some (.ref o), some (.int e1), some (.int 0), some (.ref (o + 1)), some (va_rf nx)]) rfl ?_
  exact loop cs nx 0 (o + 1, g_hd) nx h1 hs1 (by rw [Nat.zero_add]; rfl)
set_option maxHeartbeats 800000 in
set_option maxRecDepth 100000 in
theorem c_X2_takeE (l : Launch) (D : va_G) {ty : jT} {cA : ClassId} (hI : ty[0]? = some (cA, .int)) (b0 : Nat) {M : jM} {n o : Nat} (h : GrAt M o []) : Ct l D ty vwCl nwSQ b0 yX2_takeFirst wsX2_takeFirst 0 0 0 0 [.ref o] M n (j_rd (.null) M n) := by
  obtain ⟨h0, hs0⟩ := id h
  obtain ⟨_, nx, h1, hs1⟩ := hs0
  have h1 : M (o + 1) = some (.inr (1, [.int (-2147483648), .int (-2147483648), .int 0, .int 0, .int (-2147483648), va_rf nx])) := h1
  cases hs1
  refine j_start (cc := cX2_takeFirst) (maxL := 2) (ret := (some (.object "StreamQuery$Group"))) (by decide) rfl [some (.ref o), none] (Nat.le_of_ble_eq_true rfl) rfl ?_
  intro p e s m below meth c X hlk hr hnm
  refine j_aload_n X 0 dX2_takeFirst_0 rfl rfl ?_
  refine j_get X h0 rfl iwX2_takeFirst_X2 0 (by decide) lkX2_takeFirst_15 rfl dX2_takeFirst_1 ?_
  refine j_getN X h1 rfl iwX2_takeFirst_X1 5 (by decide) lkX2_takeFirst_21 rfl dX2_takeFirst_4 ?_
  refine j_astore_nN X 1 dX2_takeFirst_7 rfl (by decide) rfl (L' := [some (.ref o), some (.null)]) rfl ?_
  refine j_aload_nN X 1 dX2_takeFirst_8 rfl rfl ?_
  refine j_ifnullN X 23 dX2_takeFirst_9 (by decide) ?_
  refine j_aload_nN X 1 dX2_takeFirst_23 rfl rfl ?_
  exact j_aret X hlk hr (by omega) (by omega) (r := none) dX2_takeFirst_24 ⟨rfl, rfl, rfl⟩
set_option maxHeartbeats 800000 in
set_option maxRecDepth 100000 in
theorem c_X2_takeC (l : Launch) (D : va_G) {ty : jT} {cA : ClassId} (hI : ty[0]? = some (cA, .int)) (b0 : Nat) {M : jM} {n o : Nat} {y : Nd} {cs : List Nd} (h : GrAt M o (y :: cs)) (hne : y.1 ≠ o + 1) (hnd : ∀ z ∈ cs, z.1 ≠ o + 1) (hno : y.1 ≠ o) : Ct l D ty vwCl nwSQ b0 yX2_takeFirst wsX2_takeFirst 0 0 0 0 [.ref o] M n (fun r M' n' => r = some (.ref y.1) ∧ n = n' ∧ GrAt M' o cs ∧ ∀ q, q ≠ o + 1 → M' q = M q) := by
  obtain ⟨h0, hs0⟩ := id h
  obtain ⟨_, nx, h1, hs1⟩ := hs0
  have h1 : M (o + 1) = some (.inr (1, [.int (-2147483648), .int (-2147483648), .int 0, .int 0, .int (-2147483648), va_rf nx])) := h1
  obtain ⟨rfl, ny, hy0, hsy⟩ := hs1
  have hy : M y.1 = some (.inr (1, [.int y.2.1, .int y.2.2.1, .int y.2.2.2.1, .int y.2.2.2.2.1, .int y.2.2.2.2.2, va_rf ny])) := hy0
  refine j_start (cc := cX2_takeFirst) (maxL := 2) (ret := (some (.object "StreamQuery$Group"))) (by decide) rfl [some (.ref o), none] (Nat.le_of_ble_eq_true rfl) rfl ?_
  intro p e s m below meth c X hlk hr hnm
  refine j_aload_n X 0 dX2_takeFirst_0 rfl rfl ?_
  refine j_get X h0 rfl iwX2_takeFirst_X2 0 (by decide) lkX2_takeFirst_15 rfl dX2_takeFirst_1 ?_
  refine j_getN X h1 rfl iwX2_takeFirst_X1 5 (by decide) lkX2_takeFirst_21 rfl dX2_takeFirst_4 ?_
  refine j_astore_n X 1 dX2_takeFirst_7 rfl (by decide) rfl (L' := [some (.ref o), some (.ref y.1)]) rfl ?_
  refine j_aload_n X 1 dX2_takeFirst_8 rfl rfl ?_
  refine j_ifnullR X dX2_takeFirst_9 ?_
  refine j_aload_n X 0 dX2_takeFirst_12 rfl rfl ?_
  refine j_get X h0 rfl iwX2_takeFirst_X2 0 (by decide) lkX2_takeFirst_15 rfl dX2_takeFirst_13 ?_
  refine j_aload_n X 1 dX2_takeFirst_16 rfl rfl ?_
  refine j_getN X hy rfl iwX2_takeFirst_X1 5 (by decide) lkX2_takeFirst_21 rfl dX2_takeFirst_17 ?_
  refine j_putN X h1 rfl iwX2_takeFirst_X1 tyX1 tyX1_ok nmX1 5 (by decide) lkX2_takeFirst_21 rfl (by cases ny <;> rfl) (by cases ny <;> rfl) (Nat.le_of_ble_eq_true rfl) (fs' := [.int (-2147483648), .int (-2147483648), .int 0, .int 0, .int (-2147483648), va_rf ny]) rfl dX2_takeFirst_20 ?_
  generalize eM107 : j_up M (o + 1) (.inr (1, [.int (-2147483648), .int (-2147483648), .int 0, .int 0, .int (-2147483648), va_rf ny])) = M107
  have h108 : M107 o = some (.inr (2, [.ref (o + 1)])) := by rw [← eM107, j_up_ne _ _ (by omega)]; exact h0
  have h110 : M107 y.1 = some (.inr (1, [.int y.2.1, .int y.2.2.1, .int y.2.2.2.1, .int y.2.2.2.2.1, .int y.2.2.2.2.2, va_rf ny])) := by rw [← eM107, j_up_ne _ _ (by omega)]; exact hy
  have h111 : M107 (o + 1) = some (.inr (1, [.int (-2147483648), .int (-2147483648), .int 0, .int 0, .int (-2147483648), va_rf ny])) := by rw [← eM107]; exact j_up_self _ _ _
  refine j_aload_n X 1 dX2_takeFirst_23 rfl rfl ?_
  exact j_aret X hlk hr (by omega) (by omega) (r := some y.1) dX2_takeFirst_24 ⟨rfl, rfl, ⟨h108, rfl, ny, h111, hsy.frame (fun z hz => by rw [← eM107, j_up_ne _ _ (hnd z hz)])⟩, fun q hq => by rw [← eM107, j_up_ne _ _ (hq)]⟩
