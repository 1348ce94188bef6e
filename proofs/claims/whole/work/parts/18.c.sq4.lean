set_option maxHeartbeats 800000 in
set_option maxRecDepth 100000 in
theorem c_X4_dropEvents (l : Launch) (D : va_G) {ty : jT} {cA : ClassId} (hI : ty[0]? = some (cA, .int)) (b0 : Nat) {M : jM} {n x nb : Nat} {w sl la sp rm ln mA mB lt pr tl tk : Int32} {A B : List Ev} {cs : List Nd} {qu : List Rec} (h : SQ M x nb w sl la sp rm ln mA mB lt pr tl tk A B cs qu) (hsl : 1 ≤ sl) : Ct l D ty vwCl nwSQ b0 yX4_dropEvents wsX4_dropEvents 2 46 0 0 [.ref x] M n (fun r M' n' => r = none ∧ n = n' ∧ SQ M' x nb w sl la sp rm ln mA mB lt pr tl tk (A.filter (fun e : Ev => decide (mn (mn mA mB - la - sp) ((fd (mn mA mB - la - w) sl + 1) * sl) ≤ e.1))) (B.filter (fun e : Ev => decide (mn mA mB - la - sp ≤ e.1))) cs qu ∧ ∀ q, (q < x ∨ x + 12 < q ∧ q < nb) → M' q = M q) := by
  obtain ⟨hx, hA, hB, hG, hQ, hnd, hnb, hxn⟩ := id h
  have hx : M x = some (.inr (4, [.ref (x + 1), .ref (x + 5), .ref (x + 9), .ref (x + 11), .int w, .int sl, .int la, .int sp, .int rm, .int ln, .int mA, .int mB, .int lt, .int pr, .int tl, .int tk])) := hx
  refine j_start (cc := cX4_dropEvents) (maxL := 2) (ret := none) (by decide) rfl [some (.ref x), none] (Nat.le_of_ble_eq_true rfl) rfl ?_
  intro p e s m below meth c X hlk hr hnm
  refine j_aload_n X 0 dX4_dropEvents_0 rfl rfl ?_
  refine j_callV X nwSQ_ok (As := []) (rest := []) hx rfl rfl (c_X4_mark l D hI b0 hx) rfl gX4_dropEvents_X4_mark ⟨rfl, ddX4_mark⟩ ⟨Nat.le_of_ble_eq_true rfl, Nat.le_of_ble_eq_true rfl⟩ (Nat.le_of_ble_eq_true rfl) rfl dX4_dropEvents_1 ⟨(by show 0 + 0 ≤ 0; omega), (by show 0 + 0 ≤ 0; omega)⟩ (fun r1 M2 n3 hr4 => ?_)
  obtain ⟨rfl, rfl, rfl⟩ := hr4
  refine j_st (st := [.int (mn mA mB)]) rfl ?_
  refine j_aload_n X 0 dX4_dropEvents_4 rfl rfl ?_
  refine j_get X hx rfl iwX4_dropEvents_X4 6 (by decide) lkX4_dropEvents_40 rfl dX4_dropEvents_5 ?_
  refine j_isub X dX4_dropEvents_8 ?_
  refine j_istore_n X 1 dX4_dropEvents_9 rfl (by decide) rfl (L' := [some (.ref x), some (.int ((mn mA mB) - la))]) rfl ?_
  refine j_aload_n X 0 dX4_dropEvents_10 rfl rfl ?_
  refine j_get X hx rfl iwX4_dropEvents_X4 0 (by decide) lkX4_dropEvents_10 rfl dX4_dropEvents_11 ?_
  refine j_iload_n X 1 dX4_dropEvents_14 rfl rfl ?_
  refine j_aload_n X 0 dX4_dropEvents_15 rfl rfl ?_
  refine j_get X hx rfl iwX4_dropEvents_X4 7 (by decide) lkX4_dropEvents_43 rfl dX4_dropEvents_16 ?_
  refine j_isub X dX4_dropEvents_19 ?_
  refine j_aload_n X 0 dX4_dropEvents_20 rfl rfl ?_
  refine j_iload_n X 1 dX4_dropEvents_21 rfl rfl ?_
  refine j_aload_n X 0 dX4_dropEvents_22 rfl rfl ?_
  refine j_get X hx rfl iwX4_dropEvents_X4 4 (by decide) lkX4_dropEvents_33 rfl dX4_dropEvents_23 ?_
  refine j_isub X dX4_dropEvents_26 ?_
  refine j_callV X nwSQ_ok (As := [.int (((mn mA mB) - la) - w)]) (rest := [.int (((mn mA mB) - la) - sp), .ref (x + 1)]) hx rfl rfl (c_X4_beginningAbove l D hI b0 hx hsl (((mn mA mB) - la) - w)) rfl gX4_dropEvents_X4_beginningAbove ⟨rfl, ddX4_beginningAbove⟩ ⟨Nat.le_of_ble_eq_true rfl, Nat.le_of_ble_eq_true rfl⟩ (Nat.le_of_ble_eq_true rfl) rfl dX4_dropEvents_27 ⟨(by show 0 + 0 ≤ 0; omega), (by show 0 + 0 ≤ 0; omega)⟩ (fun r5 M6 n7 hr8 => ?_)
  obtain ⟨rfl, rfl, rfl⟩ := hr8
  refine j_st (st := [.int ((fd (((mn mA mB) - la) - w) sl + 1) * sl), .int (((mn mA mB) - la) - sp), .ref (x + 1)]) rfl ?_
  refine j_min X wdX4_dropEvents_mmin0 wdX4_dropEvents_mmin1 wdX4_dropEvents_mmin2 wdX4_dropEvents_mmin3 (Nat.le_of_ble_eq_true rfl) (Nat.le_of_ble_eq_true rfl) (by omega) (by omega) dX4_dropEvents_30 ?_
  refine j_st (st := [.int (mn (((mn mA mB) - la) - sp) ((fd (((mn mA mB) - la) - w) sl + 1) * sl)), .ref (x + 1)]) rfl ?_
  refine j_callV X nwSQ_ok (As := [.int (mn (((mn mA mB) - la) - sp) ((fd (((mn mA mB) - la) - w) sl + 1) * sl))]) (rest := []) hA.cell rfl rfl (c_X0_dropBelow l D hI b0 hA (mn (((mn mA mB) - la) - sp) ((fd (((mn mA mB) - la) - w) sl + 1) * sl))) rfl gX4_dropEvents_X0_dropBelow ⟨rfl, ddX0_dropBelow⟩ ⟨Nat.le_of_ble_eq_true rfl, Nat.le_of_ble_eq_true rfl⟩ (Nat.le_of_ble_eq_true rfl) rfl dX4_dropEvents_33 ⟨(by show 0 + 0 ≤ 0; omega), (by show 0 + 0 ≤ 0; omega)⟩ (fun r9 M10 n11 hr12 => ?_)
  obtain ⟨rfl, rfl, hp13, hf14⟩ := hr12
  refine j_st (st := []) rfl ?_
  have hp15 : EvAt M10 (x + 5) B := hB.frame (fun q h1 h2 => hf14 q (by omega))
  have hp16 : LnAt M10 (x + 11) qu := hQ.frame (fun q h1 h2 => hf14 q (by omega))
  have hp17 : GrAt M10 (x + 9) cs := hG.frame (fun q hq => hf14 q (by rcases hq with rfl | rfl | ⟨z, hz, rfl⟩ <;> first | omega | (have := hnb z hz; omega)))
  have h18 : M10 x = some (.inr (4, [.ref (x + 1), .ref (x + 5), .ref (x + 9), .ref (x + 11), .int w, .int sl, .int la, .int sp, .int rm, .int ln, .int mA, .int mB, .int lt, .int pr, .int tl, .int tk])) := by rw [hf14 x (by omega)]; exact hx
  refine j_aload_n X 0 dX4_dropEvents_36 rfl rfl ?_
  refine j_get X h18 rfl iwX4_dropEvents_X4 1 (by decide) lkX4_dropEvents_16 rfl dX4_dropEvents_37 ?_
  refine j_iload_n X 1 dX4_dropEvents_40 rfl rfl ?_
  refine j_aload_n X 0 dX4_dropEvents_41 rfl rfl ?_
  refine j_get X h18 rfl iwX4_dropEvents_X4 7 (by decide) lkX4_dropEvents_43 rfl dX4_dropEvents_42 ?_
  refine j_isub X dX4_dropEvents_45 ?_
  refine j_callV X nwSQ_ok (As := [.int (((mn mA mB) - la) - sp)]) (rest := []) hp15.cell rfl rfl (c_X0_dropBelow l D hI b0 hp15 (((mn mA mB) - la) - sp)) rfl gX4_dropEvents_X0_dropBelow ⟨rfl, ddX0_dropBelow⟩ ⟨Nat.le_of_ble_eq_true rfl, Nat.le_of_ble_eq_true rfl⟩ (Nat.le_of_ble_eq_true rfl) rfl dX4_dropEvents_46 ⟨(by show 0 + 0 ≤ 0; omega), (by show 0 + 0 ≤ 0; omega)⟩ (fun r19 M20 n21 hr22 => ?_)
  obtain ⟨rfl, rfl, hp23, hf24⟩ := hr22
  refine j_st (st := []) rfl ?_
  have hp25 : EvAt M20 (x + 1) (A.filter (fun e : Ev => decide ((mn (((mn mA mB) - la) - sp) ((fd (((mn mA mB) - la) - w) sl + 1) * sl)) ≤ e.1))) := hp13.frame (fun q h1 h2 => hf24 q (by omega))
  have hp26 : LnAt M20 (x + 11) qu := hp16.frame (fun q h1 h2 => hf24 q (by omega))
  have hp27 : GrAt M20 (x + 9) cs := hp17.frame (fun q hq => hf24 q (by rcases hq with rfl | rfl | ⟨z, hz, rfl⟩ <;> first | omega | (have := hnb z hz; omega)))
  have h28 : M20 x = some (.inr (4, [.ref (x + 1), .ref (x + 5), .ref (x + 9), .ref (x + 11), .int w, .int sl, .int la, .int sp, .int rm, .int ln, .int mA, .int mB, .int lt, .int pr, .int tl, .int tk])) := by rw [hf24 x (by omega)]; exact h18
  exact j_vret X hlk hr (by omega) (by omega) dX4_dropEvents_49 ⟨rfl, rfl, ⟨h28, hp25, hp23, hp27, hp26, hnd, hnb, hxn⟩, fun q hq => by rw [hf24 _ (by omega), hf14 _ (by omega)]⟩
set_option maxHeartbeats 800000 in
set_option maxRecDepth 100000 in
theorem c_X4_tellF (l : Launch) (D : va_G) {ty : jT} {cA : ClassId} (hI : ty[0]? = some (cA, .int)) (b0 : Nat) {M : jM} {n x nb : Nat} {w sl la sp rm ln mA mB lt pr tl tk : Int32} {A B : List Ev} {cs : List Nd} {qu : List Rec} (h : SQ M x nb w sl la sp rm ln mA mB lt pr tl tk A B cs qu) (m1 : Int32) (hN : ¬ nI (qu.length + (cs.takeWhile (fun x : Nd => decide (x.2.1 ≤ m1 - la))).length) ≤ ln) : Ct l D ty vwCl nwSQ b0 yX4_tellWindows wsX4_tellWindows 2 48 0 0 [.ref x, .int m1] M n (j_rd (.int (-3)) M n) := by
  obtain ⟨hx, hA, hB, hG, hQ, hnd, hnb, hxn⟩ := id h
  have hx : M x = some (.inr (4, [.ref (x + 1), .ref (x + 5), .ref (x + 9), .ref (x + 11), .int w, .int sl, .int la, .int sp, .int rm, .int ln, .int mA, .int mB, .int lt, .int pr, .int tl, .int tk])) := hx
  refine j_start (cc := cX4_tellWindows) (maxL := 7) (ret := (some .int)) (by decide) rfl [some (.ref x), some (.int m1), none, none, none, none, none] (Nat.le_of_ble_eq_true rfl) rfl ?_
  intro p e s m below meth c X hlk hr hnm
  refine j_iload_n X 1 dX4_tellWindows_0 rfl rfl ?_
  refine j_aload_n X 0 dX4_tellWindows_1 rfl rfl ?_
  refine j_get X hx rfl iwX4_tellWindows_X4 6 (by decide) lkX4_tellWindows_40 rfl dX4_tellWindows_2 ?_
  refine j_isub X dX4_tellWindows_5 ?_
  refine j_istore_n X 2 dX4_tellWindows_6 rfl (by decide) rfl (L' := [some (.ref x), some (.int m1), some (.int (m1 - la)), none, none, none, none]) rfl ?_
  refine j_aload_n X 0 dX4_tellWindows_7 rfl rfl ?_
  refine j_get X hx rfl iwX4_tellWindows_X4 2 (by decide) lkX4_tellWindows_22 rfl dX4_tellWindows_8 ?_
  refine j_iload_n X 2 dX4_tellWindows_11 rfl rfl ?_
  refine j_callV X nwSQ_ok (As := [.int (m1 - la)]) (rest := []) hG.1 rfl rfl (c_X2_manyUpTo l D hI b0 hG (m1 - la)) rfl gX4_tellWindows_X2_manyUpTo ⟨rfl, ddX2_manyUpTo⟩ ⟨Nat.le_of_ble_eq_true rfl, Nat.le_of_ble_eq_true rfl⟩ (Nat.le_of_ble_eq_true rfl) rfl dX4_tellWindows_12 ⟨(by show 0 + 0 ≤ 0; omega), (by show 0 + 0 ≤ 0; omega)⟩ (fun r29 M30 n31 hr32 => ?_)
  obtain ⟨rfl, rfl, rfl⟩ := hr32
  refine j_st (st := [.int (nI (cs.takeWhile (fun x : Nd => decide (x.2.1 ≤ m1 - la))).length)]) rfl ?_
  refine j_istore_n X 3 dX4_tellWindows_15 rfl (by decide) rfl (L' := [some (.ref x), some (.int m1), some (.int (m1 - la)), some (.int (nI (cs.takeWhile (fun x : Nd => decide (x.2.1 ≤ m1 - la))).length)), none, none, none]) rfl ?_
  refine j_aload_n X 0 dX4_tellWindows_16 rfl rfl ?_
  refine j_get X hx rfl iwX4_tellWindows_X4 3 (by decide) lkX4_tellWindows_29 rfl dX4_tellWindows_17 ?_
  obtain ⟨fi, hqc33⟩ := hQ.cell
  refine j_callV X nwSQ_ok (As := []) (rest := []) hqc33 rfl rfl (c_X3_size l D hI b0 hQ) rfl gX4_tellWindows_X3_size ⟨rfl, ddX3_size⟩ ⟨Nat.le_of_ble_eq_true rfl, Nat.le_of_ble_eq_true rfl⟩ (Nat.le_of_ble_eq_true rfl) rfl dX4_tellWindows_20 ⟨(by show 0 + 0 ≤ 0; omega), (by show 0 + 0 ≤ 0; omega)⟩ (fun r34 M35 n36 hr37 => ?_)
  obtain ⟨rfl, rfl, rfl⟩ := hr37
  refine j_st (st := [.int (nI qu.length)]) rfl ?_
  refine j_iload_n X 3 dX4_tellWindows_23 rfl rfl ?_
  refine j_iadd X dX4_tellWindows_24 ?_
  refine j_st (st := [.int (nI (qu.length + ((cs.takeWhile (fun x : Nd => decide (x.2.1 ≤ m1 - la))).length)))]) (by rw [show (nI qu.length) + (nI (cs.takeWhile (fun x : Nd => decide (x.2.1 ≤ m1 - la))).length) = nI (qu.length + ((cs.takeWhile (fun x : Nd => decide (x.2.1 ≤ m1 - la))).length)) from nI_add _ _]) ?_
  refine j_aload_n X 0 dX4_tellWindows_25 rfl rfl ?_
  refine j_get X hx rfl iwX4_tellWindows_X4 9 (by decide) lkX4_tellWindows_49 rfl dX4_tellWindows_26 ?_
  refine j_icmp_le X 35 dX4_tellWindows_29 (by decide) (fun c38 => ?_) (fun c38 => ?_)
  · skip
    exact absurd c38 hN
  · skip
    refine j_bipush X dX4_tellWindows_32 (v := (-3)) (by decide) ?_
    exact j_iret X hlk hr (by omega) (by omega) dX4_tellWindows_34 ⟨rfl, rfl, rfl⟩
set_option maxHeartbeats 800000 in
set_option maxRecDepth 100000 in
theorem c_X4_tellT (l : Launch) (D : va_G) {ty : jT} {cA : ClassId} (hI : ty[0]? = some (cA, .int)) (b0 : Nat) {M : jM} {n x nb : Nat} {w sl la sp rm ln mA mB lt pr tl tk : Int32} {A B : List Ev} {cs : List Nd} {qu : List Rec} (h : SQ M x nb w sl la sp rm ln mA mB lt pr tl tk A B cs qu) (m1 : Int32) (hN : nI (qu.length + (cs.takeWhile (fun x : Nd => decide (x.2.1 ≤ m1 - la))).length) ≤ ln) (hln : qu.length + (cs.takeWhile (fun x : Nd => decide (x.2.1 ≤ m1 - la))).length ≤ 400) : Ct l D ty vwCl nwSQ b0 yX4_tellWindows wsX4_tellWindows 2 48 0 0 [.ref x, .int m1] M n (fun r M' n' => r = some (.int (nI (wcn (m1 - la) (-2147483648) cs))) ∧ n = n' ∧ SQ M' x nb w sl la sp rm ln mA mB lt pr (tl + nI (cs.takeWhile (fun x : Nd => decide (x.2.1 ≤ m1 - la))).length) tk A B (cs.drop (cs.takeWhile (fun x : Nd => decide (x.2.1 ≤ m1 - la))).length) (qu ++ (cs.take (cs.takeWhile (fun x : Nd => decide (x.2.1 ≤ m1 - la))).length).map (fun y : Nd => ((1, y.2) : Rec))) ∧ ∀ q, (q < x ∨ x + 12 < q ∧ q < nb) → M' q = M q) := by
  obtain ⟨hx, hA, hB, hG, hQ, hnd, hnb, hxn⟩ := id h
  have hx : M x = some (.inr (4, [.ref (x + 1), .ref (x + 5), .ref (x + 9), .ref (x + 11), .int w, .int sl, .int la, .int sp, .int rm, .int ln, .int mA, .int mB, .int lt, .int pr, .int tl, .int tk])) := hx
  have hrl : (cs.takeWhile (fun x : Nd => decide (x.2.1 ≤ m1 - la))).length ≤ cs.length := takeWhile_len _ cs
  generalize hrr : (cs.takeWhile (fun x : Nd => decide (x.2.1 ≤ m1 - la))).length = rr at hN hln hrl ⊢
  refine j_start (cc := cX4_tellWindows) (maxL := 7) (ret := (some .int)) (by decide) rfl [some (.ref x), some (.int m1), none, none, none, none, none] (Nat.le_of_ble_eq_true rfl) rfl ?_
  intro p e s m below meth c X hlk hr hnm
  have loop : ∀ (z i : Nat) (Mi : jM) (v6 : Option Value), i + z = rr → GrAt Mi (x + 9) (cs.drop i) → LnAt Mi (x + 11) (qu ++ (cs.take i).map (fun y : Nd => ((1, y.2) : Rec))) → (∀ q, (q < x + 10 ∨ x + 12 < q) → Mi q = M q) → J p l e { frames := 2, cells := 0, slots := 0, locals := 48 } s m ([.ref x, .int m1] : List Value).toArray below meth c D ty vwCl b0 (MQ below (j_Q D ty vwCl b0 (fun r M' n' => r = some (.int (nI (wcn (m1 - la) (-2147483648) cs))) ∧ n = n' ∧ SQ M' x nb w sl la sp rm ln mA mB lt pr (tl + nI rr) tk A B (cs.drop rr) (qu ++ (cs.take rr).map (fun y : Nd => ((1, y.2) : Rec))) ∧ ∀ q, (q < x ∨ x + 12 < q ∧ q < nb) → M' q = M q)) ([.ref x, .int m1] : List Value).toArray s 0 0 (fun q => b0 ≤ q)) 7 Mi n 0 0 48 [some (.ref x), some (.int m1), some (.int (m1 - la)), some (.int (nI rr)), some (.int (nI (wcn (m1 - la) (-2147483648) cs))), some (.int (nI i)), v6] [] := by
    intro z
    induction z with
    | zero =>
      intro i Mi v6 hz hGi hQi hfr
      have hir : i = rr := by omega
      subst hir
      have hxi : Mi x = some (.inr (4, [.ref (x + 1), .ref (x + 5), .ref (x + 9), .ref (x + 11), .int w, .int sl, .int la, .int sp, .int rm, .int ln, .int mA, .int mB, .int lt, .int pr, .int tl, .int tk])) := by rw [hfr x (by omega)]; exact hx
      refine j_iload X dX4_tellWindows_48 rfl ?_
      refine j_iload_n X 3 dX4_tellWindows_50 rfl rfl ?_
      refine j_icmp_ge X 107 dX4_tellWindows_51 (by decide) (fun c39 => ?_) (fun c39 => ?_)
      · skip
        refine j_aload_n X 0 dX4_tellWindows_107 rfl rfl ?_
        refine j_dup X dX4_tellWindows_108 rfl ?_
        refine j_get X hxi rfl iwX4_tellWindows_X4 14 (by decide) lkX4_tellWindows_156 rfl dX4_tellWindows_109 ?_
        refine j_iload_n X 3 dX4_tellWindows_112 rfl rfl ?_
        refine j_iadd X dX4_tellWindows_113 ?_
        refine j_put X hxi rfl iwX4_tellWindows_X4 tyX4 tyX4_ok nmX4 14 (by decide) lkX4_tellWindows_156 rfl rfl rfl (Nat.le_of_ble_eq_true rfl) (fs' := [.ref (x + 1), .ref (x + 5), .ref (x + 9), .ref (x + 11), .int w, .int sl, .int la, .int sp, .int rm, .int ln, .int mA, .int mB, .int lt, .int pr, .int (tl + (nI i)), .int tk]) rfl dX4_tellWindows_114 ?_
        generalize eM40 : j_up Mi x (.inr (4, [.ref (x + 1), .ref (x + 5), .ref (x + 9), .ref (x + 11), .int w, .int sl, .int la, .int sp, .int rm, .int ln, .int mA, .int mB, .int lt, .int pr, .int (tl + (nI i)), .int tk])) = M40
        have h42 : M40 x = some (.inr (4, [.ref (x + 1), .ref (x + 5), .ref (x + 9), .ref (x + 11), .int w, .int sl, .int la, .int sp, .int rm, .int ln, .int mA, .int mB, .int lt, .int pr, .int (tl + (nI i)), .int tk])) := by rw [← eM40]; exact j_up_self _ _ _
        have hp43 : EvAt M40 (x + 1) A := (hA.frame (fun q h1 h2 => hfr q (by omega))).frame (fun q h1 h2 => by rw [← eM40]; exact j_up_ne _ _ (by omega))
        have hp44 : EvAt M40 (x + 5) B := (hB.frame (fun q h1 h2 => hfr q (by omega))).frame (fun q h1 h2 => by rw [← eM40]; exact j_up_ne _ _ (by omega))
        have hp45 : GrAt M40 (x + 9) (cs.drop i) := hGi.frame (fun q hq => by rw [← eM40]; exact j_up_ne _ _ (by rcases hq with rfl | rfl | ⟨z, hz, rfl⟩ <;> first | omega | (have := (fun (z : Nd) hz => hnb z (List.mem_of_mem_drop hz)) z hz; omega)))
        have hp46 : LnAt M40 (x + 11) (qu ++ (cs.take i).map (fun y : Nd => ((1, y.2) : Rec))) := hQi.frame (fun q h1 h2 => by rw [← eM40]; exact j_up_ne _ _ (by omega))
        refine j_iload X dX4_tellWindows_117 rfl ?_
        exact j_iret X hlk hr (by omega) (by omega) dX4_tellWindows_119 ⟨rfl, rfl, ⟨h42, hp43, hp44, hp45, hp46, nodup_drop hnd, fun z hz => hnb z (List.mem_of_mem_drop hz), hxn⟩, fun q hq => by rw [← eM40, j_up_ne _ _ (by omega), hfr _ (by omega)]⟩
      · skip
        exact absurd (nI_le (Nat.le_refl i) (by omega)) c39
    | succ z ih =>
      intro i Mi v6 hz hGi hQi hfr
      have hxi : Mi x = some (.inr (4, [.ref (x + 1), .ref (x + 5), .ref (x + 9), .ref (x + 11), .int w, .int sl, .int la, .int sp, .int rm, .int ln, .int mA, .int mB, .int lt, .int pr, .int tl, .int tk])) := by rw [hfr x (by omega)]; exact hx
      obtain ⟨y, hy⟩ : ∃ y, cs[i]? = some y := ⟨_, List.getElem?_eq_getElem (show i < cs.length by omega)⟩
      have hdr : cs.drop i = y :: cs.drop (i + 1) := drop_cons hy
      have hym : y ∈ cs := List.mem_of_getElem? hy
      have hyb := hnb y hym
      rw [hdr] at hGi
      obtain ⟨ny, hyn⟩ := hGi.2.mem y (List.mem_cons_of_mem _ List.mem_cons_self)
      refine j_iload X dX4_tellWindows_48 rfl ?_
      refine j_iload_n X 3 dX4_tellWindows_50 rfl rfl ?_
      refine j_icmp_ge X 107 dX4_tellWindows_51 (by decide) (fun c47 => ?_) (fun c47 => ?_)
      · skip
        exact absurd c47 (nI_ge (show i < rr by omega) (by omega))
      · skip
        refine j_aload_n X 0 dX4_tellWindows_54 rfl rfl ?_
        refine j_get X hxi rfl iwX4_tellWindows_X4 2 (by decide) lkX4_tellWindows_22 rfl dX4_tellWindows_55 ?_
        refine j_callV X nwSQ_ok (As := []) (rest := []) hGi.1 rfl rfl (c_X2_takeC l D hI b0 hGi (by omega) (fun z hz => by have := hnb z (List.mem_of_mem_drop hz); omega) (by omega)) rfl gX4_tellWindows_X2_takeFirst ⟨rfl, ddX2_takeFirst⟩ ⟨Nat.le_of_ble_eq_true rfl, Nat.le_of_ble_eq_true rfl⟩ (Nat.le_of_ble_eq_true rfl) rfl dX4_tellWindows_58 ⟨(by show 0 + 0 ≤ 0; omega), (by show 0 + 0 ≤ 0; omega)⟩ (fun r48 M49 n50 hr51 => ?_)
        obtain ⟨rfl, rfl, hg2, hf2⟩ := hr51
        refine j_st (st := [.ref y.1]) rfl ?_
        have hyn2 : M49 y.1 = some (.inr (1, [.int y.2.1, .int y.2.2.1, .int y.2.2.2.1, .int y.2.2.2.2.1, .int y.2.2.2.2.2, va_rf ny])) := by rw [hf2 y.1 (by omega)]; exact hyn
        have hx2 : M49 x = some (.inr (4, [.ref (x + 1), .ref (x + 5), .ref (x + 9), .ref (x + 11), .int w, .int sl, .int la, .int sp, .int rm, .int ln, .int mA, .int mB, .int lt, .int pr, .int tl, .int tk])) := by rw [hf2 x (by omega)]; exact hxi
        have hq2 := hQi.frame (M' := M49) (fun q h1 h2 => hf2 q (by omega))
        refine j_astore X dX4_tellWindows_61 (by decide) rfl (L' := [some (.ref x), some (.int m1), some (.int (m1 - la)), some (.int (nI rr)), some (.int (nI (wcn (m1 - la) (-2147483648) cs))), some (.int (nI i)), some (.ref y.1)]) rfl ?_
        refine j_aload X dX4_tellWindows_63 rfl ?_
        refine j_ifnullR X dX4_tellWindows_65 ?_
        refine j_aload_n X 0 dX4_tellWindows_68 rfl rfl ?_
        refine j_get X hx2 rfl iwX4_tellWindows_X4 3 (by decide) lkX4_tellWindows_29 rfl dX4_tellWindows_69 ?_
        refine j_iconst X dX4_tellWindows_72 (v := 1) (by decide) ?_
        refine j_aload X dX4_tellWindows_73 rfl ?_
        refine j_getN X hyn2 rfl iwX4_tellWindows_X1 0 (by decide) lkX4_tellWindows_203 rfl dX4_tellWindows_75 ?_
        refine j_aload X dX4_tellWindows_78 rfl ?_
        refine j_getN X hyn2 rfl iwX4_tellWindows_X1 1 (by decide) lkX4_tellWindows_206 rfl dX4_tellWindows_80 ?_
        refine j_aload X dX4_tellWindows_83 rfl ?_
        refine j_getN X hyn2 rfl iwX4_tellWindows_X1 2 (by decide) lkX4_tellWindows_130 rfl dX4_tellWindows_85 ?_
        refine j_aload X dX4_tellWindows_88 rfl ?_
        refine j_getN X hyn2 rfl iwX4_tellWindows_X1 3 (by decide) lkX4_tellWindows_135 rfl dX4_tellWindows_90 ?_
        refine j_aload X dX4_tellWindows_93 rfl ?_
        refine j_getN X hyn2 rfl iwX4_tellWindows_X1 4 (by decide) lkX4_tellWindows_138 rfl dX4_tellWindows_95 ?_
        obtain ⟨fi, hqc⟩ := hq2.cell
        refine j_callV X nwSQ_ok (As := [.int 1, .int y.2.1, .int y.2.2.1, .int y.2.2.2.1, .int y.2.2.2.2.1, .int y.2.2.2.2.2]) (rest := []) hqc rfl rfl (c_X3_add l D hI b0 hq2 (by rw [List.length_append, List.length_map, List.length_take]; omega) 1 y.2.1 y.2.2.1 y.2.2.2.1 y.2.2.2.2.1 y.2.2.2.2.2) rfl gX4_tellWindows_X3_add ⟨rfl, ddX3_add⟩ ⟨Nat.le_of_ble_eq_true rfl, Nat.le_of_ble_eq_true rfl⟩ (Nat.le_of_ble_eq_true rfl) rfl dX4_tellWindows_98 ⟨(by show 0 + 0 ≤ 0; omega), (by show 0 + 0 ≤ 0; omega)⟩ (fun r52 M53 n54 hr55 => ?_)
        obtain ⟨rfl, rfl, hq3, hf3⟩ := hr55
        refine j_st (st := []) rfl ?_
        have hg3 := hg2.frame (M' := M53) (fun q hq => hf3 q (by rcases hq with rfl | rfl | ⟨z, hz, rfl⟩ <;> first | omega | (have := hnb z (List.mem_of_mem_drop hz); omega)))
        refine j_iinc X dX4_tellWindows_101 rfl (v := nI (i + 1)) (nI_1 _) (by decide) rfl (L' := [some (.ref x), some (.int m1), some (.int (m1 - la)), some (.int (nI rr)), some (.int (nI (wcn (m1 - la) (-2147483648) cs))), some (.int (nI (i + 1))), some (.ref y.1)]) rfl ?_
        refine j_goto X 48 dX4_tellWindows_104 (by decide) ?_
        exact ih (i + 1) M53 _ (by omega) hg3 (by rw [take_snoc hy, List.map_append, ← List.append_assoc]; exact hq3) (fun q hq => by rw [hf3 q (by omega), hf2 q (by omega)]; exact hfr q hq)
  refine j_iload_n X 1 dX4_tellWindows_0 rfl rfl ?_
  refine j_aload_n X 0 dX4_tellWindows_1 rfl rfl ?_
  refine j_get X hx rfl iwX4_tellWindows_X4 6 (by decide) lkX4_tellWindows_40 rfl dX4_tellWindows_2 ?_
  refine j_isub X dX4_tellWindows_5 ?_
  refine j_istore_n X 2 dX4_tellWindows_6 rfl (by decide) rfl (L' := [some (.ref x), some (.int m1), some (.int (m1 - la)), none, none, none, none]) rfl ?_
  refine j_aload_n X 0 dX4_tellWindows_7 rfl rfl ?_
  refine j_get X hx rfl iwX4_tellWindows_X4 2 (by decide) lkX4_tellWindows_22 rfl dX4_tellWindows_8 ?_
  refine j_iload_n X 2 dX4_tellWindows_11 rfl rfl ?_
  refine j_callV X nwSQ_ok (As := [.int (m1 - la)]) (rest := []) hG.1 rfl rfl (c_X2_manyUpTo l D hI b0 hG (m1 - la)) rfl gX4_tellWindows_X2_manyUpTo ⟨rfl, ddX2_manyUpTo⟩ ⟨Nat.le_of_ble_eq_true rfl, Nat.le_of_ble_eq_true rfl⟩ (Nat.le_of_ble_eq_true rfl) rfl dX4_tellWindows_12 ⟨(by show 0 + 0 ≤ 0; omega), (by show 0 + 0 ≤ 0; omega)⟩ (fun r56 M57 n58 hr59 => ?_)
  obtain ⟨rfl, rfl, rfl⟩ := hr59
  refine j_st (st := [.int (nI rr)]) (by rw [hrr]; rfl) ?_
  refine j_istore_n X 3 dX4_tellWindows_15 rfl (by decide) rfl (L' := [some (.ref x), some (.int m1), some (.int (m1 - la)), some (.int (nI rr)), none, none, none]) rfl ?_
  refine j_aload_n X 0 dX4_tellWindows_16 rfl rfl ?_
  refine j_get X hx rfl iwX4_tellWindows_X4 3 (by decide) lkX4_tellWindows_29 rfl dX4_tellWindows_17 ?_
  obtain ⟨fi, hqc60⟩ := hQ.cell
  refine j_callV X nwSQ_ok (As := []) (rest := []) hqc60 rfl rfl (c_X3_size l D hI b0 hQ) rfl gX4_tellWindows_X3_size ⟨rfl, ddX3_size⟩ ⟨Nat.le_of_ble_eq_true rfl, Nat.le_of_ble_eq_true rfl⟩ (Nat.le_of_ble_eq_true rfl) rfl dX4_tellWindows_20 ⟨(by show 0 + 0 ≤ 0; omega), (by show 0 + 0 ≤ 0; omega)⟩ (fun r61 M62 n63 hr64 => ?_)
  obtain ⟨rfl, rfl, rfl⟩ := hr64
  refine j_st (st := [.int (nI qu.length)]) rfl ?_
  refine j_iload_n X 3 dX4_tellWindows_23 rfl rfl ?_
  refine j_iadd X dX4_tellWindows_24 ?_
  refine j_st (st := [.int (nI (qu.length + rr))]) (by rw [show (nI qu.length) + (nI rr) = nI (qu.length + rr) from nI_add _ _]) ?_
  refine j_aload_n X 0 dX4_tellWindows_25 rfl rfl ?_
  refine j_get X hx rfl iwX4_tellWindows_X4 9 (by decide) lkX4_tellWindows_49 rfl dX4_tellWindows_26 ?_
  refine j_icmp_le X 35 dX4_tellWindows_29 (by decide) (fun c65 => ?_) (fun c65 => ?_)
  · skip
    refine j_aload_n X 0 dX4_tellWindows_35 rfl rfl ?_
    refine j_get X hx rfl iwX4_tellWindows_X4 2 (by decide) lkX4_tellWindows_22 rfl dX4_tellWindows_36 ?_
    refine j_iload_n X 2 dX4_tellWindows_39 rfl rfl ?_
    refine j_callV X nwSQ_ok (As := [.int (m1 - la)]) (rest := []) hG.1 rfl rfl (c_X2_windowsUpTo l D hI b0 hG (m1 - la)) rfl gX4_tellWindows_X2_windowsUpTo ⟨rfl, ddX2_windowsUpTo⟩ ⟨Nat.le_of_ble_eq_true rfl, Nat.le_of_ble_eq_true rfl⟩ (Nat.le_of_ble_eq_true rfl) rfl dX4_tellWindows_40 ⟨(by show 0 + 0 ≤ 0; omega), (by show 0 + 0 ≤ 0; omega)⟩ (fun r66 M67 n68 hr69 => ?_)
    obtain ⟨rfl, rfl, rfl⟩ := hr69
    refine j_st (st := [.int (nI (wcn (m1 - la) (-2147483648) cs))]) rfl ?_
    refine j_istore X dX4_tellWindows_43 (by decide) rfl (L' := [some (.ref x), some (.int m1), some (.int (m1 - la)), some (.int (nI rr)), some (.int (nI (wcn (m1 - la) (-2147483648) cs))), none, none]) rfl ?_
    refine j_iconst X dX4_tellWindows_45 (v := 0) (by decide) ?_
    refine j_istore X dX4_tellWindows_46 (by decide) rfl (L' := [some (.ref x), some (.int m1), some (.int (m1 - la)), some (.int (nI rr)), some (.int (nI (wcn (m1 - la) (-2147483648) cs))), some (.int 0), none]) rfl ?_
    exact loop rr 0 M none (by omega) hG (by rw [List.take_zero, List.map_nil, List.append_nil]; exact hQ) (fun _ _ => rfl)
  · skip
    exact absurd hN c65
