set_option maxHeartbeats 800000 in
set_option maxRecDepth 100000 in
theorem c_X4_evAB (l : Launch) (D : va_G) {ty : jT} {cA : ClassId} (hI : ty[0]? = some (cA, .int)) (b0 : Nat) {M : jM} {n x nb : Nat} {w sl la sp rm ln mA mB lt pr tl tk : Int32} {A B : List Ev} {cs : List Nd} {qu : List Rec} (h : SQ M x nb w sl la sp rm ln mA mB lt pr tl tk A B cs qu) (t k v : Int32) (hT : ¬ (-1000000000 ≤ t ∧ t ≤ 1000000000)) : Ct l D ty vwCl nwSQ b0 yX4_eventA wsX4_eventA 4 96 16 96 [.ref x, .int t, .int k, .int v] M n (j_rd (.int (-2)) M n) := by
  obtain ⟨hx, hA, hB, hG, hQ, hnd, hnb, hxn⟩ := id h
  have hx : M x = some (.inr (4, [.ref (x + 1), .ref (x + 5), .ref (x + 9), .ref (x + 11), .int w, .int sl, .int la, .int sp, .int rm, .int ln, .int mA, .int mB, .int lt, .int pr, .int tl, .int tk])) := hx
  refine j_start (cc := cX4_eventA) (maxL := 6) (ret := (some .int)) (by decide) rfl [some (.ref x), some (.int t), some (.int k), some (.int v), none, none] (Nat.le_of_ble_eq_true rfl) rfl ?_
  intro p e s m below meth c X hlk hr hnm
  refine j_aload_n X 0 dX4_eventA_0 rfl rfl ?_
  refine j_aload_n X 0 dX4_eventA_1 rfl rfl ?_
  refine j_get X hx rfl iwX4_eventA_X4 1 (by decide) lkX4_eventA_16 rfl dX4_eventA_2 ?_
  refine j_iload_n X 1 dX4_eventA_5 rfl rfl ?_
  refine j_iload_n X 2 dX4_eventA_6 rfl rfl ?_
  refine j_callV X nwSQ_ok (As := [.ref (x + 5), .int t, .int k]) (rest := []) hx rfl rfl (c_X4_admB l D hI b0 h hB t k hT) rfl gX4_eventA_X4_admit ⟨rfl, ddX4_admit⟩ ⟨Nat.le_of_ble_eq_true rfl, Nat.le_of_ble_eq_true rfl⟩ (Nat.le_of_ble_eq_true rfl) rfl dX4_eventA_7 ⟨(by show 0 + 0 ≤ 16; omega), (by show 0 + 0 ≤ 96; omega)⟩ (fun r1 M2 n3 hr4 => ?_)
  obtain ⟨rfl, rfl, rfl⟩ := hr4
  refine j_st (st := [.int (-2)]) rfl ?_
  refine j_istore X dX4_eventA_10 (by decide) rfl (L' := [some (.ref x), some (.int t), some (.int k), some (.int v), some (.int (-2)), none]) rfl ?_
  refine j_iload X dX4_eventA_12 rfl ?_
  refine j_if_ge X 20 dX4_eventA_14 (by decide) (fun c5 => ?_) (fun c5 => ?_)
  · skip
    exact absurd c5 (by decide)
  · skip
    refine j_iload X dX4_eventA_17 rfl ?_
    exact j_iret X hlk hr (by omega) (by omega) dX4_eventA_19 ⟨rfl, rfl, rfl⟩
set_option maxHeartbeats 800000 in
set_option maxRecDepth 100000 in
theorem c_X4_evAL (l : Launch) (D : va_G) {ty : jT} {cA : ClassId} (hI : ty[0]? = some (cA, .int)) (b0 : Nat) {M : jM} {n x nb : Nat} {w sl la sp rm ln mA mB lt pr tl tk : Int32} {A B : List Ev} {cs : List Nd} {qu : List Rec} (h : SQ M x nb w sl la sp rm ln mA mB lt pr tl tk A B cs qu) (t k v : Int32) (hT : (-1000000000 ≤ t ∧ t ≤ 1000000000)) (hL : ¬ mn mA mB - la ≤ t) : Ct l D ty vwCl nwSQ b0 yX4_eventA wsX4_eventA 4 96 16 96 [.ref x, .int t, .int k, .int v] M n (fun r M' n' => r = some (.int (-4)) ∧ n = n' ∧ M' x = some (sqO x w sl la sp rm ln mA mB (lt + 1) pr tl tk) ∧ ∀ q, q ≠ x → M' q = M q) := by
  obtain ⟨hx, hA, hB, hG, hQ, hnd, hnb, hxn⟩ := id h
  have hx : M x = some (.inr (4, [.ref (x + 1), .ref (x + 5), .ref (x + 9), .ref (x + 11), .int w, .int sl, .int la, .int sp, .int rm, .int ln, .int mA, .int mB, .int lt, .int pr, .int tl, .int tk])) := hx
  refine j_start (cc := cX4_eventA) (maxL := 6) (ret := (some .int)) (by decide) rfl [some (.ref x), some (.int t), some (.int k), some (.int v), none, none] (Nat.le_of_ble_eq_true rfl) rfl ?_
  intro p e s m below meth c X hlk hr hnm
  refine j_aload_n X 0 dX4_eventA_0 rfl rfl ?_
  refine j_aload_n X 0 dX4_eventA_1 rfl rfl ?_
  refine j_get X hx rfl iwX4_eventA_X4 1 (by decide) lkX4_eventA_16 rfl dX4_eventA_2 ?_
  refine j_iload_n X 1 dX4_eventA_5 rfl rfl ?_
  refine j_iload_n X 2 dX4_eventA_6 rfl rfl ?_
  refine j_callV X nwSQ_ok (As := [.ref (x + 5), .int t, .int k]) (rest := []) hx rfl rfl (c_X4_admL l D hI b0 h hB t k hT hL) rfl gX4_eventA_X4_admit ⟨rfl, ddX4_admit⟩ ⟨Nat.le_of_ble_eq_true rfl, Nat.le_of_ble_eq_true rfl⟩ (Nat.le_of_ble_eq_true rfl) rfl dX4_eventA_7 ⟨(by show 0 + 0 ≤ 16; omega), (by show 0 + 0 ≤ 96; omega)⟩ (fun r6 M7 n8 hr9 => ?_)
  obtain ⟨rfl, rfl, hx2, hf2⟩ := hr9
  refine j_st (st := [.int (-4)]) rfl ?_
  refine j_istore X dX4_eventA_10 (by decide) rfl (L' := [some (.ref x), some (.int t), some (.int k), some (.int v), some (.int (-4)), none]) rfl ?_
  refine j_iload X dX4_eventA_12 rfl ?_
  refine j_if_ge X 20 dX4_eventA_14 (by decide) (fun c10 => ?_) (fun c10 => ?_)
  · skip
    exact absurd c10 (by decide)
  · skip
    refine j_iload X dX4_eventA_17 rfl ?_
    exact j_iret X hlk hr (by omega) (by omega) dX4_eventA_19 ⟨rfl, rfl, hx2, hf2⟩
set_option maxHeartbeats 800000 in
set_option maxRecDepth 100000 in
theorem c_X4_evAF (l : Launch) (D : va_G) {ty : jT} {cA : ClassId} (hI : ty[0]? = some (cA, .int)) (b0 : Nat) {M : jM} {n x nb : Nat} {w sl la sp rm ln mA mB lt pr tl tk : Int32} {A B : List Ev} {cs : List Nd} {qu : List Rec} (h : SQ M x nb w sl la sp rm ln mA mB lt pr tl tk A B cs qu) (t k v : Int32) (hT : (-1000000000 ≤ t ∧ t ≤ 1000000000)) (hL : mn mA mB - la ≤ t) (hR : ¬ nI (A.length + B.length) < rm) : Ct l D ty vwCl nwSQ b0 yX4_eventA wsX4_eventA 4 96 16 96 [.ref x, .int t, .int k, .int v] M n (j_rd (.int (-3)) M n) := by
  obtain ⟨hx, hA, hB, hG, hQ, hnd, hnb, hxn⟩ := id h
  have hx : M x = some (.inr (4, [.ref (x + 1), .ref (x + 5), .ref (x + 9), .ref (x + 11), .int w, .int sl, .int la, .int sp, .int rm, .int ln, .int mA, .int mB, .int lt, .int pr, .int tl, .int tk])) := hx
  refine j_start (cc := cX4_eventA) (maxL := 6) (ret := (some .int)) (by decide) rfl [some (.ref x), some (.int t), some (.int k), some (.int v), none, none] (Nat.le_of_ble_eq_true rfl) rfl ?_
  intro p e s m below meth c X hlk hr hnm
  refine j_aload_n X 0 dX4_eventA_0 rfl rfl ?_
  refine j_aload_n X 0 dX4_eventA_1 rfl rfl ?_
  refine j_get X hx rfl iwX4_eventA_X4 1 (by decide) lkX4_eventA_16 rfl dX4_eventA_2 ?_
  refine j_iload_n X 1 dX4_eventA_5 rfl rfl ?_
  refine j_iload_n X 2 dX4_eventA_6 rfl rfl ?_
  refine j_callV X nwSQ_ok (As := [.ref (x + 5), .int t, .int k]) (rest := []) hx rfl rfl (c_X4_admF l D hI b0 h hB t k hT hL hR) rfl gX4_eventA_X4_admit ⟨rfl, ddX4_admit⟩ ⟨Nat.le_of_ble_eq_true rfl, Nat.le_of_ble_eq_true rfl⟩ (Nat.le_of_ble_eq_true rfl) rfl dX4_eventA_7 ⟨(by show 0 + 0 ≤ 16; omega), (by show 0 + 0 ≤ 96; omega)⟩ (fun r11 M12 n13 hr14 => ?_)
  obtain ⟨rfl, rfl, rfl⟩ := hr14
  refine j_st (st := [.int (-3)]) rfl ?_
  refine j_istore X dX4_eventA_10 (by decide) rfl (L' := [some (.ref x), some (.int t), some (.int k), some (.int v), some (.int (-3)), none]) rfl ?_
  refine j_iload X dX4_eventA_12 rfl ?_
  refine j_if_ge X 20 dX4_eventA_14 (by decide) (fun c15 => ?_) (fun c15 => ?_)
  · skip
    exact absurd c15 (by decide)
  · skip
    refine j_iload X dX4_eventA_17 rfl ?_
    exact j_iret X hlk hr (by omega) (by omega) dX4_eventA_19 ⟨rfl, rfl, rfl⟩
set_option maxHeartbeats 800000 in
set_option maxRecDepth 100000 in
theorem c_X4_evAQ (l : Launch) (D : va_G) {ty : jT} {cA : ClassId} (hI : ty[0]? = some (cA, .int)) (b0 : Nat) {M : jM} {n x nb : Nat} {w sl la sp rm ln mA mB lt pr tl tk : Int32} {A B : List Ev} {cs : List Nd} {qu : List Rec} (h : SQ M x nb w sl la sp rm ln mA mB lt pr tl tk A B cs qu) (t k v : Int32) (hT : (-1000000000 ≤ t ∧ t ≤ 1000000000)) (hL : mn mA mB - la ≤ t) (hR : nI (A.length + B.length) < rm) (hN : ¬ nI (qu.length + B.countP (nr t k sp)) ≤ ln) : Ct l D ty vwCl nwSQ b0 yX4_eventA wsX4_eventA 4 96 16 96 [.ref x, .int t, .int k, .int v] M n (j_rd (.int (-3)) M n) := by
  obtain ⟨hx, hA, hB, hG, hQ, hnd, hnb, hxn⟩ := id h
  have hx : M x = some (.inr (4, [.ref (x + 1), .ref (x + 5), .ref (x + 9), .ref (x + 11), .int w, .int sl, .int la, .int sp, .int rm, .int ln, .int mA, .int mB, .int lt, .int pr, .int tl, .int tk])) := hx
  refine j_start (cc := cX4_eventA) (maxL := 6) (ret := (some .int)) (by decide) rfl [some (.ref x), some (.int t), some (.int k), some (.int v), none, none] (Nat.le_of_ble_eq_true rfl) rfl ?_
  intro p e s m below meth c X hlk hr hnm
  refine j_aload_n X 0 dX4_eventA_0 rfl rfl ?_
  refine j_aload_n X 0 dX4_eventA_1 rfl rfl ?_
  refine j_get X hx rfl iwX4_eventA_X4 1 (by decide) lkX4_eventA_16 rfl dX4_eventA_2 ?_
  refine j_iload_n X 1 dX4_eventA_5 rfl rfl ?_
  refine j_iload_n X 2 dX4_eventA_6 rfl rfl ?_
  refine j_callV X nwSQ_ok (As := [.ref (x + 5), .int t, .int k]) (rest := []) hx rfl rfl (c_X4_admQ l D hI b0 h hB t k hT hL hR hN) rfl gX4_eventA_X4_admit ⟨rfl, ddX4_admit⟩ ⟨Nat.le_of_ble_eq_true rfl, Nat.le_of_ble_eq_true rfl⟩ (Nat.le_of_ble_eq_true rfl) rfl dX4_eventA_7 ⟨(by show 0 + 0 ≤ 16; omega), (by show 0 + 0 ≤ 96; omega)⟩ (fun r16 M17 n18 hr19 => ?_)
  obtain ⟨rfl, rfl, rfl⟩ := hr19
  refine j_st (st := [.int (-3)]) rfl ?_
  refine j_istore X dX4_eventA_10 (by decide) rfl (L' := [some (.ref x), some (.int t), some (.int k), some (.int v), some (.int (-3)), none]) rfl ?_
  refine j_iload X dX4_eventA_12 rfl ?_
  refine j_if_ge X 20 dX4_eventA_14 (by decide) (fun c20 => ?_) (fun c20 => ?_)
  · skip
    exact absurd c20 (by decide)
  · skip
    refine j_iload X dX4_eventA_17 rfl ?_
    exact j_iret X hlk hr (by omega) (by omega) dX4_eventA_19 ⟨rfl, rfl, rfl⟩
set_option maxHeartbeats 800000 in
set_option maxRecDepth 100000 in
theorem c_X4_evAP (l : Launch) (D : va_G) {ty : jT} {cA : ClassId} (hI : ty[0]? = some (cA, .int)) (b0 : Nat) {M : jM} {n x nb : Nat} {w sl la sp rm ln mA mB lt pr tl tk : Int32} {A B : List Ev} {cs : List Nd} {qu : List Rec} (h : SQ M x nb w sl la sp rm ln mA mB lt pr tl tk A B cs qu) (t k v : Int32) (hT : (-1000000000 ≤ t ∧ t ≤ 1000000000)) (hL : mn mA mB - la ≤ t) (hR : nI (A.length + B.length) < rm) (hN : nI (qu.length + B.countP (nr t k sp)) ≤ ln) (hq4 : qu.length + B.countP (nr t k sp) ≤ 400) (hl2 : A.length < 200) (hnn : nb ≤ n) (hB0 : okB w sl ((fd (t - w) sl + 1) * sl)) : Ct l D ty vwCl nwSQ b0 yX4_eventA wsX4_eventA 4 96 16 96 [.ref x, .int t, .int k, .int v] M n (fun r M' n' => r = some (.int (nI (B.countP (nr t k sp)))) ∧ n ≤ n' ∧ ∃ cs', cs'.map Prod.snd = (endsF t w sl 16 ((fd (t - w) sl + 1) * sl)).foldl (fun gs e => ups e k v gs) (cs.map Prod.snd) ∧ SQ M' x nb w sl la sp rm ln mA mB lt (pr + nI (B.countP (nr t k sp))) tl (tk + 1) (A ++ [(t, k, v)]) B cs' (qu ++ ((B).filter (nr t k sp)).map (fun e : Ev => ((2, t, e.1, k, v, e.2.2) : Rec))) ∧ ∀ q, (q < x ∨ x + 12 < q ∧ q < nb) → M' q = M q) := by
  obtain ⟨hx, hA, hB, hG, hQ, hnd, hnb, hxn⟩ := id h
  have hx : M x = some (.inr (4, [.ref (x + 1), .ref (x + 5), .ref (x + 9), .ref (x + 11), .int w, .int sl, .int la, .int sp, .int rm, .int ln, .int mA, .int mB, .int lt, .int pr, .int tl, .int tk])) := hx
  have hpl : B.countP (nr t k sp) ≤ 200 := Nat.le_trans List.countP_le_length hB.len
  refine j_start (cc := cX4_eventA) (maxL := 6) (ret := (some .int)) (by decide) rfl [some (.ref x), some (.int t), some (.int k), some (.int v), none, none] (Nat.le_of_ble_eq_true rfl) rfl ?_
  intro p e s m below meth c X hlk hr hnm
  have loop : ∀ (z i : Nat) (Mi : jM), i + z = B.length → LnAt Mi (x + 11) (qu ++ ((B.take i).filter (nr t k sp)).map (fun e : Ev => ((2, t, e.1, k, v, e.2.2) : Rec))) → (∀ q, (q < x + 11 ∨ x + 12 < q) → Mi q = M q) → J p l e { frames := 4, cells := 16, slots := 96, locals := 96 } s m ([.ref x, .int t, .int k, .int v] : List Value).toArray below meth c D ty vwCl b0 (MQ below (j_Q D ty vwCl b0 (fun r M' n' => r = some (.int (nI (B.countP (nr t k sp)))) ∧ n ≤ n' ∧ ∃ cs', cs'.map Prod.snd = (endsF t w sl 16 ((fd (t - w) sl + 1) * sl)).foldl (fun gs e => ups e k v gs) (cs.map Prod.snd) ∧ SQ M' x nb w sl la sp rm ln mA mB lt (pr + nI (B.countP (nr t k sp))) tl (tk + 1) (A ++ [(t, k, v)]) B cs' (qu ++ ((B).filter (nr t k sp)).map (fun e : Ev => ((2, t, e.1, k, v, e.2.2) : Rec))) ∧ ∀ q, (q < x ∨ x + 12 < q ∧ q < nb) → M' q = M q)) ([.ref x, .int t, .int k, .int v] : List Value).toArray s 16 96 (fun q => b0 ≤ q)) 6 Mi n 0 0 23 [some (.ref x), some (.int t), some (.int k), some (.int v), some (.int (nI (B.countP (nr t k sp)))), some (.int (nI i))] [] := by
    intro z
    induction z with
    | zero =>
      intro i Mi hz hQi hfr
      have hir : i = B.length := by omega
      subst hir
      rw [List.take_length] at hQi
      have hxi : Mi x = some (.inr (4, [.ref (x + 1), .ref (x + 5), .ref (x + 9), .ref (x + 11), .int w, .int sl, .int la, .int sp, .int rm, .int ln, .int mA, .int mB, .int lt, .int pr, .int tl, .int tk])) := by rw [hfr x (by omega)]; exact hx
      have hAi := hA.frame (M' := Mi) (fun q h1 h2 => hfr q (by omega))
      have hBi := hB.frame (M' := Mi) (fun q h1 h2 => hfr q (by omega))
      have hGi := hG.frame (M' := Mi) (fun q hq => hfr q (by rcases hq with rfl | rfl | ⟨z, hz, rfl⟩ <;> first | omega | (have := hnb z hz; omega)))
      refine j_iload X dX4_eventA_23 rfl ?_
      refine j_aload_n X 0 dX4_eventA_25 rfl rfl ?_
      refine j_get X hxi rfl iwX4_eventA_X4 1 (by decide) lkX4_eventA_16 rfl dX4_eventA_26 ?_
      refine j_callV X nwSQ_ok (As := []) (rest := [.int (nI B.length)]) hBi.cell rfl rfl (c_X0_size l D hI b0 hBi) rfl gX4_eventA_X0_size ⟨rfl, ddX0_size⟩ ⟨Nat.le_of_ble_eq_true rfl, Nat.le_of_ble_eq_true rfl⟩ (Nat.le_of_ble_eq_true rfl) rfl dX4_eventA_29 ⟨(by show 0 + 0 ≤ 16; omega), (by show 0 + 0 ≤ 96; omega)⟩ (fun r21 M22 n23 hr24 => ?_)
      obtain ⟨rfl, rfl, rfl⟩ := hr24
      refine j_st (st := [.int (nI B.length), .int (nI B.length)]) rfl ?_
      refine j_icmp_ge X 88 dX4_eventA_32 (by decide) (fun c25 => ?_) (fun c25 => ?_)
      · skip
        refine j_aload_n X 0 dX4_eventA_88 rfl rfl ?_
        refine j_get X hxi rfl iwX4_eventA_X4 0 (by decide) lkX4_eventA_10 rfl dX4_eventA_89 ?_
        refine j_iload_n X 1 dX4_eventA_92 rfl rfl ?_
        refine j_iload_n X 2 dX4_eventA_93 rfl rfl ?_
        refine j_iload_n X 3 dX4_eventA_94 rfl rfl ?_
        obtain ⟨ft, fk, fv, g0, g1, g2, g3, glen, gl⟩ := id hAi
        refine j_callV X nwSQ_ok (As := [.int t, .int k, .int v]) (rest := []) hAi.cell rfl rfl (c_X0_add l D hI b0 ⟨g0, g1, g2, g3⟩ hl2 t k v) rfl gX4_eventA_X0_add ⟨rfl, ddX0_add⟩ ⟨Nat.le_of_ble_eq_true rfl, Nat.le_of_ble_eq_true rfl⟩ (Nat.le_of_ble_eq_true rfl) rfl dX4_eventA_95 ⟨(by show 0 + 0 ≤ 16; omega), (by show 0 + 0 ≤ 96; omega)⟩ (fun r26 M27 n28 hr29 => ?_)
        obtain ⟨rfl, rfl, hraw, hfa⟩ := hr29
        refine j_st (st := []) rfl ?_
        have hEn : EvAt M27 (x + 1) (A ++ [(t, k, v)]) := EvAt.push hraw hl2 gl
        have hp30 : EvAt M27 (x + 5) B := hBi.frame (fun q h1 h2 => hfa q (by omega))
        have hp31 : GrAt M27 (x + 9) cs := hGi.frame (fun q hq => hfa q (by rcases hq with rfl | rfl | ⟨z, hz, rfl⟩ <;> first | omega | (have := hnb z hz; omega)))
        have hp32 : LnAt M27 (x + 11) (qu ++ ((B).filter (nr t k sp)).map (fun e : Ev => ((2, t, e.1, k, v, e.2.2) : Rec))) := hQi.frame (fun q h1 h2 => hfa q (by omega))
        have h33 : M27 x = some (.inr (4, [.ref (x + 1), .ref (x + 5), .ref (x + 9), .ref (x + 11), .int w, .int sl, .int la, .int sp, .int rm, .int ln, .int mA, .int mB, .int lt, .int pr, .int tl, .int tk])) := by rw [hfa x (by omega)]; exact hxi
        refine j_aload_n X 0 dX4_eventA_98 rfl rfl ?_
        refine j_iload_n X 1 dX4_eventA_99 rfl rfl ?_
        refine j_iload_n X 2 dX4_eventA_100 rfl rfl ?_
        refine j_iload_n X 3 dX4_eventA_101 rfl rfl ?_
        refine j_callV X nwSQ_ok (As := [.int t, .int k, .int v]) (rest := []) h33 rfl rfl (c_X4_gather l D hI b0 h33 hp31 hnd hnb hxn hnn t k v (i_le.mp hT.2) hB0) rfl gX4_eventA_X4_gather ⟨rfl, ddX4_gather⟩ ⟨Nat.le_of_ble_eq_true rfl, Nat.le_of_ble_eq_true rfl⟩ (Nat.le_of_ble_eq_true rfl) rfl dX4_eventA_102 ⟨(by show 0 + 16 ≤ 16; omega), (by show 0 + 96 ≤ 96; omega)⟩ (fun r34 M35 n36 hr37 => ?_)
        obtain ⟨rfl, hn2, cs2, hG2, hgs, hnd2, hnb2, hfg⟩ := hr37
        refine j_st (st := []) rfl ?_
        have hfg2 : ∀ q, (q < x + 9 + 1 ∨ x + 9 + 1 < q ∧ q < nb) → M35 q = M27 q := fun q hq => hfg q (by omega) (by omega)
        have hp38 : EvAt M35 (x + 1) (A ++ [(t, k, v)]) := hEn.frame (fun q h1 h2 => hfg2 q (by omega))
        have hp39 : EvAt M35 (x + 5) B := hp30.frame (fun q h1 h2 => hfg2 q (by omega))
        have hp40 : LnAt M35 (x + 11) (qu ++ ((B).filter (nr t k sp)).map (fun e : Ev => ((2, t, e.1, k, v, e.2.2) : Rec))) := hp32.frame (fun q h1 h2 => hfg2 q (by omega))
        have h41 : M35 x = some (.inr (4, [.ref (x + 1), .ref (x + 5), .ref (x + 9), .ref (x + 11), .int w, .int sl, .int la, .int sp, .int rm, .int ln, .int mA, .int mB, .int lt, .int pr, .int tl, .int tk])) := by rw [hfg2 x (by omega)]; exact h33
        refine j_aload_n X 0 dX4_eventA_105 rfl rfl ?_
        refine j_iload X dX4_eventA_106 rfl ?_
        refine j_callV X nwSQ_ok (As := [.int (nI (B.countP (nr t k sp)))]) (rest := []) h41 rfl rfl (c_X4_countTaken l D hI b0 h41 (nI (B.countP (nr t k sp)))) rfl gX4_eventA_X4_countTaken ⟨rfl, ddX4_countTaken⟩ ⟨Nat.le_of_ble_eq_true rfl, Nat.le_of_ble_eq_true rfl⟩ (Nat.le_of_ble_eq_true rfl) rfl dX4_eventA_108 ⟨(by show 16 + 0 ≤ 16; omega), (by show 96 + 0 ≤ 96; omega)⟩ (fun r42 M43 n44 hr45 => ?_)
        obtain ⟨rfl, rfl, hx3, hf3⟩ := hr45
        refine j_st (st := []) rfl ?_
        have hf4 : ∀ q, (q < x ∨ x < q) → M43 q = M35 q := fun q hq => hf3 q (by omega)
        have hp46 : EvAt M43 (x + 1) (A ++ [(t, k, v)]) := hp38.frame (fun q h1 h2 => hf4 q (by omega))
        have hp47 : EvAt M43 (x + 5) B := hp39.frame (fun q h1 h2 => hf4 q (by omega))
        have hp48 : GrAt M43 (x + 9) cs2 := hG2.frame (fun q hq => hf4 q (by rcases hq with rfl | rfl | ⟨z, hz, rfl⟩ <;> first | omega | (have := hnb2 z hz; omega)))
        have hp49 : LnAt M43 (x + 11) (qu ++ ((B).filter (nr t k sp)).map (fun e : Ev => ((2, t, e.1, k, v, e.2.2) : Rec))) := hp40.frame (fun q h1 h2 => hf4 q (by omega))
        refine j_iload X dX4_eventA_111 rfl ?_
        exact j_iret X hlk hr (by omega) (by omega) dX4_eventA_113 ⟨rfl, hn2, cs2, hgs, ⟨hx3, hp46, hp47, hp48, hp49, hnd2, hnb2, hxn⟩, fun q hq => by rw [hf4 _ (by omega), hfg2 _ (by omega), hfa _ (by omega), hfr _ (by omega)]⟩
      · skip
        exact absurd (nI_le (Nat.le_refl B.length) (by have := hB.len; omega)) c25
    | succ z ih =>
      intro i Mi hz hQi hfr
      have hol := hB.len
      obtain ⟨ev, hev⟩ : ∃ ev, B[i]? = some ev := ⟨_, List.getElem?_eq_getElem (show i < B.length by omega)⟩
      have hij : i < B.length := by omega
      have hxi : Mi x = some (.inr (4, [.ref (x + 1), .ref (x + 5), .ref (x + 9), .ref (x + 11), .int w, .int sl, .int la, .int sp, .int rm, .int ln, .int mA, .int mB, .int lt, .int pr, .int tl, .int tk])) := by rw [hfr x (by omega)]; exact hx
      have hOi := hB.frame (M' := Mi) (fun q h1 h2 => hfr q (by omega))
      have hft := filter_take (p := nr t k sp) hev
      have hcn := take_count (p := nr t k sp) hev
      have hcl : (B.take (i + 1)).countP (nr t k sp) ≤ B.countP (nr t k sp) := (List.take_sublist _ _).countP_le
      refine j_iload X dX4_eventA_23 rfl ?_
      refine j_aload_n X 0 dX4_eventA_25 rfl rfl ?_
      refine j_get X hxi rfl iwX4_eventA_X4 1 (by decide) lkX4_eventA_16 rfl dX4_eventA_26 ?_
      refine j_callV X nwSQ_ok (As := []) (rest := [.int (nI i)]) hOi.cell rfl rfl (c_X0_size l D hI b0 hOi) rfl gX4_eventA_X0_size ⟨rfl, ddX0_size⟩ ⟨Nat.le_of_ble_eq_true rfl, Nat.le_of_ble_eq_true rfl⟩ (Nat.le_of_ble_eq_true rfl) rfl dX4_eventA_29 ⟨(by show 0 + 0 ≤ 16; omega), (by show 0 + 0 ≤ 96; omega)⟩ (fun r50 M51 n52 hr53 => ?_)
      obtain ⟨rfl, rfl, rfl⟩ := hr53
      refine j_st (st := [.int (nI B.length), .int (nI i)]) rfl ?_
      refine j_icmp_ge X 88 dX4_eventA_32 (by decide) (fun c54 => ?_) (fun c54 => ?_)
      · skip
        exact absurd c54 (nI_ge hij (by omega))
      · skip
        refine j_aload_n X 0 dX4_eventA_35 rfl rfl ?_
        refine j_get X hxi rfl iwX4_eventA_X4 1 (by decide) lkX4_eventA_16 rfl dX4_eventA_36 ?_
        refine j_iload X dX4_eventA_39 rfl ?_
        refine j_iload_n X 1 dX4_eventA_41 rfl rfl ?_
        refine j_iload_n X 2 dX4_eventA_42 rfl rfl ?_
        refine j_aload_n X 0 dX4_eventA_43 rfl rfl ?_
        refine j_get X hxi rfl iwX4_eventA_X4 7 (by decide) lkX4_eventA_43 rfl dX4_eventA_44 ?_
        refine j_callV X nwSQ_ok (As := [.int (nI i), .int t, .int k, .int sp]) (rest := []) hOi.cell rfl rfl (c_X0_isNear l D hI b0 hOi hij hev t k sp) rfl gX4_eventA_X0_isNear ⟨rfl, ddX0_isNear⟩ ⟨Nat.le_of_ble_eq_true rfl, Nat.le_of_ble_eq_true rfl⟩ (Nat.le_of_ble_eq_true rfl) rfl dX4_eventA_47 ⟨(by show 0 + 0 ≤ 16; omega), (by show 0 + 0 ≤ 96; omega)⟩ (fun r55 M56 n57 hr58 => ?_)
        obtain ⟨rfl, rfl, rfl⟩ := hr58
        refine j_st (st := [.int (if nr t k sp ev then 1 else 0)]) rfl ?_
        refine j_if_eq X 82 dX4_eventA_50 (by decide) (fun c59 => ?_) (fun c59 => ?_)
        · skip
          refine j_iinc X dX4_eventA_82 rfl (v := nI (i + 1)) (nI_1 _) (by decide) rfl (L' := [some (.ref x), some (.int t), some (.int k), some (.int v), some (.int (nI (B.countP (nr t k sp)))), some (.int (nI (i + 1)))]) rfl ?_
          refine j_goto X 23 dX4_eventA_85 (by decide) ?_
          have hnr : nr t k sp ev = false := by cases hb : nr t k sp ev <;> simp [hb] at c59 ⊢
          rw [if_neg (by rw [hnr]; decide), List.append_nil] at hft
          exact ih (i + 1) Mi (by omega) (by rw [hft]; exact hQi) hfr
        · skip
          refine j_aload_n X 0 dX4_eventA_53 rfl rfl ?_
          refine j_get X hxi rfl iwX4_eventA_X4 3 (by decide) lkX4_eventA_29 rfl dX4_eventA_54 ?_
          refine j_iconst X dX4_eventA_57 (v := 2) (by decide) ?_
          refine j_iload_n X 1 dX4_eventA_58 rfl rfl ?_
          refine j_aload_n X 0 dX4_eventA_59 rfl rfl ?_
          refine j_get X hxi rfl iwX4_eventA_X4 1 (by decide) lkX4_eventA_16 rfl dX4_eventA_60 ?_
          refine j_iload X dX4_eventA_63 rfl ?_
          refine j_callV X nwSQ_ok (As := [.int (nI i)]) (rest := [.int t, .int 2, .ref (x + 11)]) hOi.cell rfl rfl (c_X0_timeT l D hI b0 hOi hij hev) rfl gX4_eventA_X0_time ⟨rfl, ddX0_time⟩ ⟨Nat.le_of_ble_eq_true rfl, Nat.le_of_ble_eq_true rfl⟩ (Nat.le_of_ble_eq_true rfl) rfl dX4_eventA_65 ⟨(by show 0 + 0 ≤ 16; omega), (by show 0 + 0 ≤ 96; omega)⟩ (fun r60 M61 n62 hr63 => ?_)
          obtain ⟨rfl, rfl, rfl⟩ := hr63
          refine j_st (st := [.int ev.1, .int t, .int 2, .ref (x + 11)]) rfl ?_
          refine j_iload_n X 2 dX4_eventA_68 rfl rfl ?_
          refine j_iload_n X 3 dX4_eventA_69 rfl rfl ?_
          refine j_aload_n X 0 dX4_eventA_70 rfl rfl ?_
          refine j_get X hxi rfl iwX4_eventA_X4 1 (by decide) lkX4_eventA_16 rfl dX4_eventA_71 ?_
          refine j_iload X dX4_eventA_74 rfl ?_
          refine j_callV X nwSQ_ok (As := [.int (nI i)]) (rest := [.int v, .int k, .int ev.1, .int t, .int 2, .ref (x + 11)]) hOi.cell rfl rfl (c_X0_valueT l D hI b0 hOi hij hev) rfl gX4_eventA_X0_value ⟨rfl, ddX0_value⟩ ⟨Nat.le_of_ble_eq_true rfl, Nat.le_of_ble_eq_true rfl⟩ (Nat.le_of_ble_eq_true rfl) rfl dX4_eventA_76 ⟨(by show 0 + 0 ≤ 16; omega), (by show 0 + 0 ≤ 96; omega)⟩ (fun r64 M65 n66 hr67 => ?_)
          obtain ⟨rfl, rfl, rfl⟩ := hr67
          refine j_st (st := [.int ev.2.2, .int v, .int k, .int ev.1, .int t, .int 2, .ref (x + 11)]) rfl ?_
          have hnr : nr t k sp ev = true := by cases hb : nr t k sp ev <;> simp [hb] at c59 ⊢
          rw [if_pos hnr] at hcn hft
          obtain ⟨fi, hqc⟩ := hQi.cell
          refine j_callV X nwSQ_ok (As := [.int 2, .int t, .int ev.1, .int k, .int v, .int ev.2.2]) (rest := []) hqc rfl rfl (c_X3_add l D hI b0 hQi (by rw [List.length_append, List.length_map, ← List.countP_eq_length_filter]; omega) 2 t ev.1 k v ev.2.2) rfl gX4_eventA_X3_add ⟨rfl, ddX3_add⟩ ⟨Nat.le_of_ble_eq_true rfl, Nat.le_of_ble_eq_true rfl⟩ (Nat.le_of_ble_eq_true rfl) rfl dX4_eventA_79 ⟨(by show 0 + 0 ≤ 16; omega), (by show 0 + 0 ≤ 96; omega)⟩ (fun r68 M69 n70 hr71 => ?_)
          obtain ⟨rfl, rfl, hq3, hf3⟩ := hr71
          refine j_st (st := []) rfl ?_
          refine j_iinc X dX4_eventA_82 rfl (v := nI (i + 1)) (nI_1 _) (by decide) rfl (L' := [some (.ref x), some (.int t), some (.int k), some (.int v), some (.int (nI (B.countP (nr t k sp)))), some (.int (nI (i + 1)))]) rfl ?_
          refine j_goto X 23 dX4_eventA_85 (by decide) ?_
          exact ih (i + 1) M69 (by omega) (by rw [hft, List.map_append, ← List.append_assoc]; exact hq3) (fun q hq => by rw [hf3 q (by omega)]; exact hfr q hq)
  refine j_aload_n X 0 dX4_eventA_0 rfl rfl ?_
  refine j_aload_n X 0 dX4_eventA_1 rfl rfl ?_
  refine j_get X hx rfl iwX4_eventA_X4 1 (by decide) lkX4_eventA_16 rfl dX4_eventA_2 ?_
  refine j_iload_n X 1 dX4_eventA_5 rfl rfl ?_
  refine j_iload_n X 2 dX4_eventA_6 rfl rfl ?_
  refine j_callV X nwSQ_ok (As := [.ref (x + 5), .int t, .int k]) (rest := []) hx rfl rfl (c_X4_admP l D hI b0 h hB t k hT hL hR hN) rfl gX4_eventA_X4_admit ⟨rfl, ddX4_admit⟩ ⟨Nat.le_of_ble_eq_true rfl, Nat.le_of_ble_eq_true rfl⟩ (Nat.le_of_ble_eq_true rfl) rfl dX4_eventA_7 ⟨(by show 0 + 0 ≤ 16; omega), (by show 0 + 0 ≤ 96; omega)⟩ (fun r72 M73 n74 hr75 => ?_)
  obtain ⟨rfl, rfl, rfl⟩ := hr75
  refine j_st (st := [.int (nI (B.countP (nr t k sp)))]) rfl ?_
  refine j_istore X dX4_eventA_10 (by decide) rfl (L' := [some (.ref x), some (.int t), some (.int k), some (.int v), some (.int (nI (B.countP (nr t k sp)))), none]) rfl ?_
  refine j_iload X dX4_eventA_12 rfl ?_
  refine j_if_ge X 20 dX4_eventA_14 (by decide) (fun c76 => ?_) (fun c76 => ?_)
  · skip
    refine j_iconst X dX4_eventA_20 (v := 0) (by decide) ?_
    refine j_istore X dX4_eventA_21 (by decide) rfl (L' := [some (.ref x), some (.int t), some (.int k), some (.int v), some (.int (nI (B.countP (nr t k sp)))), some (.int 0)]) rfl ?_
    exact loop B.length 0 M (by omega) (by rw [List.take_zero, List.filter_nil, List.map_nil, List.append_nil]; exact hQ) (fun _ _ => rfl)
  · skip
    exact absurd (nI_pos' (by omega)) c76
set_option maxHeartbeats 800000 in
set_option maxRecDepth 100000 in
theorem c_X4_evBB (l : Launch) (D : va_G) {ty : jT} {cA : ClassId} (hI : ty[0]? = some (cA, .int)) (b0 : Nat) {M : jM} {n x nb : Nat} {w sl la sp rm ln mA mB lt pr tl tk : Int32} {A B : List Ev} {cs : List Nd} {qu : List Rec} (h : SQ M x nb w sl la sp rm ln mA mB lt pr tl tk A B cs qu) (t k v : Int32) (hT : ¬ (-1000000000 ≤ t ∧ t ≤ 1000000000)) : Ct l D ty vwCl nwSQ b0 yX4_eventB wsX4_eventB 4 94 0 0 [.ref x, .int t, .int k, .int v] M n (j_rd (.int (-2)) M n) := by
  obtain ⟨hx, hA, hB, hG, hQ, hnd, hnb, hxn⟩ := id h
  have hx : M x = some (.inr (4, [.ref (x + 1), .ref (x + 5), .ref (x + 9), .ref (x + 11), .int w, .int sl, .int la, .int sp, .int rm, .int ln, .int mA, .int mB, .int lt, .int pr, .int tl, .int tk])) := hx
  refine j_start (cc := cX4_eventB) (maxL := 6) (ret := (some .int)) (by decide) rfl [some (.ref x), some (.int t), some (.int k), some (.int v), none, none] (Nat.le_of_ble_eq_true rfl) rfl ?_
  intro p e s m below meth c X hlk hr hnm
  refine j_aload_n X 0 dX4_eventB_0 rfl rfl ?_
  refine j_aload_n X 0 dX4_eventB_1 rfl rfl ?_
  refine j_get X hx rfl iwX4_eventB_X4 0 (by decide) lkX4_eventB_10 rfl dX4_eventB_2 ?_
  refine j_iload_n X 1 dX4_eventB_5 rfl rfl ?_
  refine j_iload_n X 2 dX4_eventB_6 rfl rfl ?_
  refine j_callV X nwSQ_ok (As := [.ref (x + 1), .int t, .int k]) (rest := []) hx rfl rfl (c_X4_admB l D hI b0 h hA t k hT) rfl gX4_eventB_X4_admit ⟨rfl, ddX4_admit⟩ ⟨Nat.le_of_ble_eq_true rfl, Nat.le_of_ble_eq_true rfl⟩ (Nat.le_of_ble_eq_true rfl) rfl dX4_eventB_7 ⟨(by show 0 + 0 ≤ 0; omega), (by show 0 + 0 ≤ 0; omega)⟩ (fun r77 M78 n79 hr80 => ?_)
  obtain ⟨rfl, rfl, rfl⟩ := hr80
  refine j_st (st := [.int (-2)]) rfl ?_
  refine j_istore X dX4_eventB_10 (by decide) rfl (L' := [some (.ref x), some (.int t), some (.int k), some (.int v), some (.int (-2)), none]) rfl ?_
  refine j_iload X dX4_eventB_12 rfl ?_
  refine j_if_ge X 20 dX4_eventB_14 (by decide) (fun c81 => ?_) (fun c81 => ?_)
  · skip
    exact absurd c81 (by decide)
  · skip
    refine j_iload X dX4_eventB_17 rfl ?_
    exact j_iret X hlk hr (by omega) (by omega) dX4_eventB_19 ⟨rfl, rfl, rfl⟩
set_option maxHeartbeats 800000 in
set_option maxRecDepth 100000 in
theorem c_X4_evBL (l : Launch) (D : va_G) {ty : jT} {cA : ClassId} (hI : ty[0]? = some (cA, .int)) (b0 : Nat) {M : jM} {n x nb : Nat} {w sl la sp rm ln mA mB lt pr tl tk : Int32} {A B : List Ev} {cs : List Nd} {qu : List Rec} (h : SQ M x nb w sl la sp rm ln mA mB lt pr tl tk A B cs qu) (t k v : Int32) (hT : (-1000000000 ≤ t ∧ t ≤ 1000000000)) (hL : ¬ mn mA mB - la ≤ t) : Ct l D ty vwCl nwSQ b0 yX4_eventB wsX4_eventB 4 94 0 0 [.ref x, .int t, .int k, .int v] M n (fun r M' n' => r = some (.int (-4)) ∧ n = n' ∧ M' x = some (sqO x w sl la sp rm ln mA mB (lt + 1) pr tl tk) ∧ ∀ q, q ≠ x → M' q = M q) := by
  obtain ⟨hx, hA, hB, hG, hQ, hnd, hnb, hxn⟩ := id h
  have hx : M x = some (.inr (4, [.ref (x + 1), .ref (x + 5), .ref (x + 9), .ref (x + 11), .int w, .int sl, .int la, .int sp, .int rm, .int ln, .int mA, .int mB, .int lt, .int pr, .int tl, .int tk])) := hx
  refine j_start (cc := cX4_eventB) (maxL := 6) (ret := (some .int)) (by decide) rfl [some (.ref x), some (.int t), some (.int k), some (.int v), none, none] (Nat.le_of_ble_eq_true rfl) rfl ?_
  intro p e s m below meth c X hlk hr hnm
  refine j_aload_n X 0 dX4_eventB_0 rfl rfl ?_
  refine j_aload_n X 0 dX4_eventB_1 rfl rfl ?_
  refine j_get X hx rfl iwX4_eventB_X4 0 (by decide) lkX4_eventB_10 rfl dX4_eventB_2 ?_
  refine j_iload_n X 1 dX4_eventB_5 rfl rfl ?_
  refine j_iload_n X 2 dX4_eventB_6 rfl rfl ?_
  refine j_callV X nwSQ_ok (As := [.ref (x + 1), .int t, .int k]) (rest := []) hx rfl rfl (c_X4_admL l D hI b0 h hA t k hT hL) rfl gX4_eventB_X4_admit ⟨rfl, ddX4_admit⟩ ⟨Nat.le_of_ble_eq_true rfl, Nat.le_of_ble_eq_true rfl⟩ (Nat.le_of_ble_eq_true rfl) rfl dX4_eventB_7 ⟨(by show 0 + 0 ≤ 0; omega), (by show 0 + 0 ≤ 0; omega)⟩ (fun r82 M83 n84 hr85 => ?_)
  obtain ⟨rfl, rfl, hx2, hf2⟩ := hr85
  refine j_st (st := [.int (-4)]) rfl ?_
  refine j_istore X dX4_eventB_10 (by decide) rfl (L' := [some (.ref x), some (.int t), some (.int k), some (.int v), some (.int (-4)), none]) rfl ?_
  refine j_iload X dX4_eventB_12 rfl ?_
  refine j_if_ge X 20 dX4_eventB_14 (by decide) (fun c86 => ?_) (fun c86 => ?_)
  · skip
    exact absurd c86 (by decide)
  · skip
    refine j_iload X dX4_eventB_17 rfl ?_
    exact j_iret X hlk hr (by omega) (by omega) dX4_eventB_19 ⟨rfl, rfl, hx2, hf2⟩
set_option maxHeartbeats 800000 in
set_option maxRecDepth 100000 in
theorem c_X4_evBF (l : Launch) (D : va_G) {ty : jT} {cA : ClassId} (hI : ty[0]? = some (cA, .int)) (b0 : Nat) {M : jM} {n x nb : Nat} {w sl la sp rm ln mA mB lt pr tl tk : Int32} {A B : List Ev} {cs : List Nd} {qu : List Rec} (h : SQ M x nb w sl la sp rm ln mA mB lt pr tl tk A B cs qu) (t k v : Int32) (hT : (-1000000000 ≤ t ∧ t ≤ 1000000000)) (hL : mn mA mB - la ≤ t) (hR : ¬ nI (A.length + B.length) < rm) : Ct l D ty vwCl nwSQ b0 yX4_eventB wsX4_eventB 4 94 0 0 [.ref x, .int t, .int k, .int v] M n (j_rd (.int (-3)) M n) := by
  obtain ⟨hx, hA, hB, hG, hQ, hnd, hnb, hxn⟩ := id h
  have hx : M x = some (.inr (4, [.ref (x + 1), .ref (x + 5), .ref (x + 9), .ref (x + 11), .int w, .int sl, .int la, .int sp, .int rm, .int ln, .int mA, .int mB, .int lt, .int pr, .int tl, .int tk])) := hx
  refine j_start (cc := cX4_eventB) (maxL := 6) (ret := (some .int)) (by decide) rfl [some (.ref x), some (.int t), some (.int k), some (.int v), none, none] (Nat.le_of_ble_eq_true rfl) rfl ?_
  intro p e s m below meth c X hlk hr hnm
  refine j_aload_n X 0 dX4_eventB_0 rfl rfl ?_
  refine j_aload_n X 0 dX4_eventB_1 rfl rfl ?_
  refine j_get X hx rfl iwX4_eventB_X4 0 (by decide) lkX4_eventB_10 rfl dX4_eventB_2 ?_
  refine j_iload_n X 1 dX4_eventB_5 rfl rfl ?_
  refine j_iload_n X 2 dX4_eventB_6 rfl rfl ?_
  refine j_callV X nwSQ_ok (As := [.ref (x + 1), .int t, .int k]) (rest := []) hx rfl rfl (c_X4_admF l D hI b0 h hA t k hT hL hR) rfl gX4_eventB_X4_admit ⟨rfl, ddX4_admit⟩ ⟨Nat.le_of_ble_eq_true rfl, Nat.le_of_ble_eq_true rfl⟩ (Nat.le_of_ble_eq_true rfl) rfl dX4_eventB_7 ⟨(by show 0 + 0 ≤ 0; omega), (by show 0 + 0 ≤ 0; omega)⟩ (fun r87 M88 n89 hr90 => ?_)
  obtain ⟨rfl, rfl, rfl⟩ := hr90
  refine j_st (st := [.int (-3)]) rfl ?_
  refine j_istore X dX4_eventB_10 (by decide) rfl (L' := [some (.ref x), some (.int t), some (.int k), some (.int v), some (.int (-3)), none]) rfl ?_
  refine j_iload X dX4_eventB_12 rfl ?_
  refine j_if_ge X 20 dX4_eventB_14 (by decide) (fun c91 => ?_) (fun c91 => ?_)
  · skip
    exact absurd c91 (by decide)
  · skip
    refine j_iload X dX4_eventB_17 rfl ?_
    exact j_iret X hlk hr (by omega) (by omega) dX4_eventB_19 ⟨rfl, rfl, rfl⟩
set_option maxHeartbeats 800000 in
set_option maxRecDepth 100000 in
theorem c_X4_evBQ (l : Launch) (D : va_G) {ty : jT} {cA : ClassId} (hI : ty[0]? = some (cA, .int)) (b0 : Nat) {M : jM} {n x nb : Nat} {w sl la sp rm ln mA mB lt pr tl tk : Int32} {A B : List Ev} {cs : List Nd} {qu : List Rec} (h : SQ M x nb w sl la sp rm ln mA mB lt pr tl tk A B cs qu) (t k v : Int32) (hT : (-1000000000 ≤ t ∧ t ≤ 1000000000)) (hL : mn mA mB - la ≤ t) (hR : nI (A.length + B.length) < rm) (hN : ¬ nI (qu.length + A.countP (nr t k sp)) ≤ ln) : Ct l D ty vwCl nwSQ b0 yX4_eventB wsX4_eventB 4 94 0 0 [.ref x, .int t, .int k, .int v] M n (j_rd (.int (-3)) M n) := by
  obtain ⟨hx, hA, hB, hG, hQ, hnd, hnb, hxn⟩ := id h
  have hx : M x = some (.inr (4, [.ref (x + 1), .ref (x + 5), .ref (x + 9), .ref (x + 11), .int w, .int sl, .int la, .int sp, .int rm, .int ln, .int mA, .int mB, .int lt, .int pr, .int tl, .int tk])) := hx
  refine j_start (cc := cX4_eventB) (maxL := 6) (ret := (some .int)) (by decide) rfl [some (.ref x), some (.int t), some (.int k), some (.int v), none, none] (Nat.le_of_ble_eq_true rfl) rfl ?_
  intro p e s m below meth c X hlk hr hnm
  refine j_aload_n X 0 dX4_eventB_0 rfl rfl ?_
  refine j_aload_n X 0 dX4_eventB_1 rfl rfl ?_
  refine j_get X hx rfl iwX4_eventB_X4 0 (by decide) lkX4_eventB_10 rfl dX4_eventB_2 ?_
  refine j_iload_n X 1 dX4_eventB_5 rfl rfl ?_
  refine j_iload_n X 2 dX4_eventB_6 rfl rfl ?_
  refine j_callV X nwSQ_ok (As := [.ref (x + 1), .int t, .int k]) (rest := []) hx rfl rfl (c_X4_admQ l D hI b0 h hA t k hT hL hR hN) rfl gX4_eventB_X4_admit ⟨rfl, ddX4_admit⟩ ⟨Nat.le_of_ble_eq_true rfl, Nat.le_of_ble_eq_true rfl⟩ (Nat.le_of_ble_eq_true rfl) rfl dX4_eventB_7 ⟨(by show 0 + 0 ≤ 0; omega), (by show 0 + 0 ≤ 0; omega)⟩ (fun r92 M93 n94 hr95 => ?_)
  obtain ⟨rfl, rfl, rfl⟩ := hr95
  refine j_st (st := [.int (-3)]) rfl ?_
  refine j_istore X dX4_eventB_10 (by decide) rfl (L' := [some (.ref x), some (.int t), some (.int k), some (.int v), some (.int (-3)), none]) rfl ?_
  refine j_iload X dX4_eventB_12 rfl ?_
  refine j_if_ge X 20 dX4_eventB_14 (by decide) (fun c96 => ?_) (fun c96 => ?_)
  · skip
    exact absurd c96 (by decide)
  · skip
    refine j_iload X dX4_eventB_17 rfl ?_
    exact j_iret X hlk hr (by omega) (by omega) dX4_eventB_19 ⟨rfl, rfl, rfl⟩
set_option maxHeartbeats 800000 in
set_option maxRecDepth 100000 in
theorem c_X4_evBP (l : Launch) (D : va_G) {ty : jT} {cA : ClassId} (hI : ty[0]? = some (cA, .int)) (b0 : Nat) {M : jM} {n x nb : Nat} {w sl la sp rm ln mA mB lt pr tl tk : Int32} {A B : List Ev} {cs : List Nd} {qu : List Rec} (h : SQ M x nb w sl la sp rm ln mA mB lt pr tl tk A B cs qu) (t k v : Int32) (hT : (-1000000000 ≤ t ∧ t ≤ 1000000000)) (hL : mn mA mB - la ≤ t) (hR : nI (A.length + B.length) < rm) (hN : nI (qu.length + A.countP (nr t k sp)) ≤ ln) (hq4 : qu.length + A.countP (nr t k sp) ≤ 400) (hl2 : B.length < 200) : Ct l D ty vwCl nwSQ b0 yX4_eventB wsX4_eventB 4 94 0 0 [.ref x, .int t, .int k, .int v] M n (fun r M' n' => r = some (.int (nI (A.countP (nr t k sp)))) ∧ n = n' ∧ SQ M' x nb w sl la sp rm ln mA mB lt (pr + nI (A.countP (nr t k sp))) tl (tk + 1) A (B ++ [(t, k, v)]) cs (qu ++ ((A).filter (nr t k sp)).map (fun e : Ev => ((2, e.1, t, k, e.2.2, v) : Rec))) ∧ ∀ q, (q < x ∨ x + 12 < q ∧ q < nb) → M' q = M q) := by
  obtain ⟨hx, hA, hB, hG, hQ, hnd, hnb, hxn⟩ := id h
  have hx : M x = some (.inr (4, [.ref (x + 1), .ref (x + 5), .ref (x + 9), .ref (x + 11), .int w, .int sl, .int la, .int sp, .int rm, .int ln, .int mA, .int mB, .int lt, .int pr, .int tl, .int tk])) := hx
  have hpl : A.countP (nr t k sp) ≤ 200 := Nat.le_trans List.countP_le_length hA.len
  refine j_start (cc := cX4_eventB) (maxL := 6) (ret := (some .int)) (by decide) rfl [some (.ref x), some (.int t), some (.int k), some (.int v), none, none] (Nat.le_of_ble_eq_true rfl) rfl ?_
  intro p e s m below meth c X hlk hr hnm
  have loop : ∀ (z i : Nat) (Mi : jM), i + z = A.length → LnAt Mi (x + 11) (qu ++ ((A.take i).filter (nr t k sp)).map (fun e : Ev => ((2, e.1, t, k, e.2.2, v) : Rec))) → (∀ q, (q < x + 11 ∨ x + 12 < q) → Mi q = M q) → J p l e { frames := 4, cells := 0, slots := 0, locals := 94 } s m ([.ref x, .int t, .int k, .int v] : List Value).toArray below meth c D ty vwCl b0 (MQ below (j_Q D ty vwCl b0 (fun r M' n' => r = some (.int (nI (A.countP (nr t k sp)))) ∧ n = n' ∧ SQ M' x nb w sl la sp rm ln mA mB lt (pr + nI (A.countP (nr t k sp))) tl (tk + 1) A (B ++ [(t, k, v)]) cs (qu ++ ((A).filter (nr t k sp)).map (fun e : Ev => ((2, e.1, t, k, e.2.2, v) : Rec))) ∧ ∀ q, (q < x ∨ x + 12 < q ∧ q < nb) → M' q = M q)) ([.ref x, .int t, .int k, .int v] : List Value).toArray s 0 0 (fun q => b0 ≤ q)) 6 Mi n 0 0 23 [some (.ref x), some (.int t), some (.int k), some (.int v), some (.int (nI (A.countP (nr t k sp)))), some (.int (nI i))] [] := by
    intro z
    induction z with
    | zero =>
      intro i Mi hz hQi hfr
      have hir : i = A.length := by omega
      subst hir
      rw [List.take_length] at hQi
      have hxi : Mi x = some (.inr (4, [.ref (x + 1), .ref (x + 5), .ref (x + 9), .ref (x + 11), .int w, .int sl, .int la, .int sp, .int rm, .int ln, .int mA, .int mB, .int lt, .int pr, .int tl, .int tk])) := by rw [hfr x (by omega)]; exact hx
      have hAi := hA.frame (M' := Mi) (fun q h1 h2 => hfr q (by omega))
      have hBi := hB.frame (M' := Mi) (fun q h1 h2 => hfr q (by omega))
      have hGi := hG.frame (M' := Mi) (fun q hq => hfr q (by rcases hq with rfl | rfl | ⟨z, hz, rfl⟩ <;> first | omega | (have := hnb z hz; omega)))
      refine j_iload X dX4_eventB_23 rfl ?_
      refine j_aload_n X 0 dX4_eventB_25 rfl rfl ?_
      refine j_get X hxi rfl iwX4_eventB_X4 0 (by decide) lkX4_eventB_10 rfl dX4_eventB_26 ?_
      refine j_callV X nwSQ_ok (As := []) (rest := [.int (nI A.length)]) hAi.cell rfl rfl (c_X0_size l D hI b0 hAi) rfl gX4_eventB_X0_size ⟨rfl, ddX0_size⟩ ⟨Nat.le_of_ble_eq_true rfl, Nat.le_of_ble_eq_true rfl⟩ (Nat.le_of_ble_eq_true rfl) rfl dX4_eventB_29 ⟨(by show 0 + 0 ≤ 0; omega), (by show 0 + 0 ≤ 0; omega)⟩ (fun r97 M98 n99 hr100 => ?_)
      obtain ⟨rfl, rfl, rfl⟩ := hr100
      refine j_st (st := [.int (nI A.length), .int (nI A.length)]) rfl ?_
      refine j_icmp_ge X 88 dX4_eventB_32 (by decide) (fun c101 => ?_) (fun c101 => ?_)
      · skip
        refine j_aload_n X 0 dX4_eventB_88 rfl rfl ?_
        refine j_get X hxi rfl iwX4_eventB_X4 1 (by decide) lkX4_eventB_16 rfl dX4_eventB_89 ?_
        refine j_iload_n X 1 dX4_eventB_92 rfl rfl ?_
        refine j_iload_n X 2 dX4_eventB_93 rfl rfl ?_
        refine j_iload_n X 3 dX4_eventB_94 rfl rfl ?_
        obtain ⟨ft, fk, fv, g0, g1, g2, g3, glen, gl⟩ := id hBi
        refine j_callV X nwSQ_ok (As := [.int t, .int k, .int v]) (rest := []) hBi.cell rfl rfl (c_X0_add l D hI b0 ⟨g0, g1, g2, g3⟩ hl2 t k v) rfl gX4_eventB_X0_add ⟨rfl, ddX0_add⟩ ⟨Nat.le_of_ble_eq_true rfl, Nat.le_of_ble_eq_true rfl⟩ (Nat.le_of_ble_eq_true rfl) rfl dX4_eventB_95 ⟨(by show 0 + 0 ≤ 0; omega), (by show 0 + 0 ≤ 0; omega)⟩ (fun r102 M103 n104 hr105 => ?_)
        obtain ⟨rfl, rfl, hraw, hfa⟩ := hr105
        refine j_st (st := []) rfl ?_
        have hEn : EvAt M103 (x + 5) (B ++ [(t, k, v)]) := EvAt.push hraw hl2 gl
        have hp106 : EvAt M103 (x + 1) A := hAi.frame (fun q h1 h2 => hfa q (by omega))
        have hp107 : GrAt M103 (x + 9) cs := hGi.frame (fun q hq => hfa q (by rcases hq with rfl | rfl | ⟨z, hz, rfl⟩ <;> first | omega | (have := hnb z hz; omega)))
        have hp108 : LnAt M103 (x + 11) (qu ++ ((A).filter (nr t k sp)).map (fun e : Ev => ((2, e.1, t, k, e.2.2, v) : Rec))) := hQi.frame (fun q h1 h2 => hfa q (by omega))
        have h109 : M103 x = some (.inr (4, [.ref (x + 1), .ref (x + 5), .ref (x + 9), .ref (x + 11), .int w, .int sl, .int la, .int sp, .int rm, .int ln, .int mA, .int mB, .int lt, .int pr, .int tl, .int tk])) := by rw [hfa x (by omega)]; exact hxi
        refine j_aload_n X 0 dX4_eventB_98 rfl rfl ?_
        refine j_iload X dX4_eventB_99 rfl ?_
        refine j_callV X nwSQ_ok (As := [.int (nI (A.countP (nr t k sp)))]) (rest := []) h109 rfl rfl (c_X4_countTaken l D hI b0 h109 (nI (A.countP (nr t k sp)))) rfl gX4_eventB_X4_countTaken ⟨rfl, ddX4_countTaken⟩ ⟨Nat.le_of_ble_eq_true rfl, Nat.le_of_ble_eq_true rfl⟩ (Nat.le_of_ble_eq_true rfl) rfl dX4_eventB_101 ⟨(by show 0 + 0 ≤ 0; omega), (by show 0 + 0 ≤ 0; omega)⟩ (fun r110 M111 n112 hr113 => ?_)
        obtain ⟨rfl, rfl, hx3, hf3⟩ := hr113
        refine j_st (st := []) rfl ?_
        have hf4 : ∀ q, (q < x ∨ x < q) → M111 q = M103 q := fun q hq => hf3 q (by omega)
        have hp114 : EvAt M111 (x + 1) A := hp106.frame (fun q h1 h2 => hf4 q (by omega))
        have hp115 : EvAt M111 (x + 5) (B ++ [(t, k, v)]) := hEn.frame (fun q h1 h2 => hf4 q (by omega))
        have hp116 : GrAt M111 (x + 9) cs := hp107.frame (fun q hq => hf4 q (by rcases hq with rfl | rfl | ⟨z, hz, rfl⟩ <;> first | omega | (have := hnb z hz; omega)))
        have hp117 : LnAt M111 (x + 11) (qu ++ ((A).filter (nr t k sp)).map (fun e : Ev => ((2, e.1, t, k, e.2.2, v) : Rec))) := hp108.frame (fun q h1 h2 => hf4 q (by omega))
        refine j_iload X dX4_eventB_104 rfl ?_
        exact j_iret X hlk hr (by omega) (by omega) dX4_eventB_106 ⟨rfl, rfl, ⟨hx3, hp114, hp115, hp116, hp117, hnd, hnb, hxn⟩, fun q hq => by rw [hf4 _ (by omega), hfa _ (by omega), hfr _ (by omega)]⟩
      · skip
        exact absurd (nI_le (Nat.le_refl A.length) (by have := hA.len; omega)) c101
    | succ z ih =>
      intro i Mi hz hQi hfr
      have hol := hA.len
      obtain ⟨ev, hev⟩ : ∃ ev, A[i]? = some ev := ⟨_, List.getElem?_eq_getElem (show i < A.length by omega)⟩
      have hij : i < A.length := by omega
      have hxi : Mi x = some (.inr (4, [.ref (x + 1), .ref (x + 5), .ref (x + 9), .ref (x + 11), .int w, .int sl, .int la, .int sp, .int rm, .int ln, .int mA, .int mB, .int lt, .int pr, .int tl, .int tk])) := by rw [hfr x (by omega)]; exact hx
      have hOi := hA.frame (M' := Mi) (fun q h1 h2 => hfr q (by omega))
      have hft := filter_take (p := nr t k sp) hev
      have hcn := take_count (p := nr t k sp) hev
      have hcl : (A.take (i + 1)).countP (nr t k sp) ≤ A.countP (nr t k sp) := (List.take_sublist _ _).countP_le
      refine j_iload X dX4_eventB_23 rfl ?_
      refine j_aload_n X 0 dX4_eventB_25 rfl rfl ?_
      refine j_get X hxi rfl iwX4_eventB_X4 0 (by decide) lkX4_eventB_10 rfl dX4_eventB_26 ?_
      refine j_callV X nwSQ_ok (As := []) (rest := [.int (nI i)]) hOi.cell rfl rfl (c_X0_size l D hI b0 hOi) rfl gX4_eventB_X0_size ⟨rfl, ddX0_size⟩ ⟨Nat.le_of_ble_eq_true rfl, Nat.le_of_ble_eq_true rfl⟩ (Nat.le_of_ble_eq_true rfl) rfl dX4_eventB_29 ⟨(by show 0 + 0 ≤ 0; omega), (by show 0 + 0 ≤ 0; omega)⟩ (fun r118 M119 n120 hr121 => ?_)
      obtain ⟨rfl, rfl, rfl⟩ := hr121
      refine j_st (st := [.int (nI A.length), .int (nI i)]) rfl ?_
      refine j_icmp_ge X 88 dX4_eventB_32 (by decide) (fun c122 => ?_) (fun c122 => ?_)
      · skip
        exact absurd c122 (nI_ge hij (by omega))
      · skip
        refine j_aload_n X 0 dX4_eventB_35 rfl rfl ?_
        refine j_get X hxi rfl iwX4_eventB_X4 0 (by decide) lkX4_eventB_10 rfl dX4_eventB_36 ?_
        refine j_iload X dX4_eventB_39 rfl ?_
        refine j_iload_n X 1 dX4_eventB_41 rfl rfl ?_
        refine j_iload_n X 2 dX4_eventB_42 rfl rfl ?_
        refine j_aload_n X 0 dX4_eventB_43 rfl rfl ?_
        refine j_get X hxi rfl iwX4_eventB_X4 7 (by decide) lkX4_eventB_43 rfl dX4_eventB_44 ?_
        refine j_callV X nwSQ_ok (As := [.int (nI i), .int t, .int k, .int sp]) (rest := []) hOi.cell rfl rfl (c_X0_isNear l D hI b0 hOi hij hev t k sp) rfl gX4_eventB_X0_isNear ⟨rfl, ddX0_isNear⟩ ⟨Nat.le_of_ble_eq_true rfl, Nat.le_of_ble_eq_true rfl⟩ (Nat.le_of_ble_eq_true rfl) rfl dX4_eventB_47 ⟨(by show 0 + 0 ≤ 0; omega), (by show 0 + 0 ≤ 0; omega)⟩ (fun r123 M124 n125 hr126 => ?_)
        obtain ⟨rfl, rfl, rfl⟩ := hr126
        refine j_st (st := [.int (if nr t k sp ev then 1 else 0)]) rfl ?_
        refine j_if_eq X 82 dX4_eventB_50 (by decide) (fun c127 => ?_) (fun c127 => ?_)
        · skip
          refine j_iinc X dX4_eventB_82 rfl (v := nI (i + 1)) (nI_1 _) (by decide) rfl (L' := [some (.ref x), some (.int t), some (.int k), some (.int v), some (.int (nI (A.countP (nr t k sp)))), some (.int (nI (i + 1)))]) rfl ?_
          refine j_goto X 23 dX4_eventB_85 (by decide) ?_
          have hnr : nr t k sp ev = false := by cases hb : nr t k sp ev <;> simp [hb] at c127 ⊢
          rw [if_neg (by rw [hnr]; decide), List.append_nil] at hft
          exact ih (i + 1) Mi (by omega) (by rw [hft]; exact hQi) hfr
        · skip
          refine j_aload_n X 0 dX4_eventB_53 rfl rfl ?_
          refine j_get X hxi rfl iwX4_eventB_X4 3 (by decide) lkX4_eventB_29 rfl dX4_eventB_54 ?_
          refine j_iconst X dX4_eventB_57 (v := 2) (by decide) ?_
          refine j_aload_n X 0 dX4_eventB_58 rfl rfl ?_
          refine j_get X hxi rfl iwX4_eventB_X4 0 (by decide) lkX4_eventB_10 rfl dX4_eventB_59 ?_
          refine j_iload X dX4_eventB_62 rfl ?_
          refine j_callV X nwSQ_ok (As := [.int (nI i)]) (rest := [.int 2, .ref (x + 11)]) hOi.cell rfl rfl (c_X0_timeT l D hI b0 hOi hij hev) rfl gX4_eventB_X0_time ⟨rfl, ddX0_time⟩ ⟨Nat.le_of_ble_eq_true rfl, Nat.le_of_ble_eq_true rfl⟩ (Nat.le_of_ble_eq_true rfl) rfl dX4_eventB_64 ⟨(by show 0 + 0 ≤ 0; omega), (by show 0 + 0 ≤ 0; omega)⟩ (fun r128 M129 n130 hr131 => ?_)
          obtain ⟨rfl, rfl, rfl⟩ := hr131
          refine j_st (st := [.int ev.1, .int 2, .ref (x + 11)]) rfl ?_
          refine j_iload_n X 1 dX4_eventB_67 rfl rfl ?_
          refine j_iload_n X 2 dX4_eventB_68 rfl rfl ?_
          refine j_aload_n X 0 dX4_eventB_69 rfl rfl ?_
          refine j_get X hxi rfl iwX4_eventB_X4 0 (by decide) lkX4_eventB_10 rfl dX4_eventB_70 ?_
          refine j_iload X dX4_eventB_73 rfl ?_
          refine j_callV X nwSQ_ok (As := [.int (nI i)]) (rest := [.int k, .int t, .int ev.1, .int 2, .ref (x + 11)]) hOi.cell rfl rfl (c_X0_valueT l D hI b0 hOi hij hev) rfl gX4_eventB_X0_value ⟨rfl, ddX0_value⟩ ⟨Nat.le_of_ble_eq_true rfl, Nat.le_of_ble_eq_true rfl⟩ (Nat.le_of_ble_eq_true rfl) rfl dX4_eventB_75 ⟨(by show 0 + 0 ≤ 0; omega), (by show 0 + 0 ≤ 0; omega)⟩ (fun r132 M133 n134 hr135 => ?_)
          obtain ⟨rfl, rfl, rfl⟩ := hr135
          refine j_st (st := [.int ev.2.2, .int k, .int t, .int ev.1, .int 2, .ref (x + 11)]) rfl ?_
          refine j_iload_n X 3 dX4_eventB_78 rfl rfl ?_
          have hnr : nr t k sp ev = true := by cases hb : nr t k sp ev <;> simp [hb] at c127 ⊢
          rw [if_pos hnr] at hcn hft
          obtain ⟨fi, hqc⟩ := hQi.cell
          refine j_callV X nwSQ_ok (As := [.int 2, .int ev.1, .int t, .int k, .int ev.2.2, .int v]) (rest := []) hqc rfl rfl (c_X3_add l D hI b0 hQi (by rw [List.length_append, List.length_map, ← List.countP_eq_length_filter]; omega) 2 ev.1 t k ev.2.2 v) rfl gX4_eventB_X3_add ⟨rfl, ddX3_add⟩ ⟨Nat.le_of_ble_eq_true rfl, Nat.le_of_ble_eq_true rfl⟩ (Nat.le_of_ble_eq_true rfl) rfl dX4_eventB_79 ⟨(by show 0 + 0 ≤ 0; omega), (by show 0 + 0 ≤ 0; omega)⟩ (fun r136 M137 n138 hr139 => ?_)
          obtain ⟨rfl, rfl, hq3, hf3⟩ := hr139
          refine j_st (st := []) rfl ?_
          refine j_iinc X dX4_eventB_82 rfl (v := nI (i + 1)) (nI_1 _) (by decide) rfl (L' := [some (.ref x), some (.int t), some (.int k), some (.int v), some (.int (nI (A.countP (nr t k sp)))), some (.int (nI (i + 1)))]) rfl ?_
          refine j_goto X 23 dX4_eventB_85 (by decide) ?_
          exact ih (i + 1) M137 (by omega) (by rw [hft, List.map_append, ← List.append_assoc]; exact hq3) (fun q hq => by rw [hf3 q (by omega)]; exact hfr q hq)
  refine j_aload_n X 0 dX4_eventB_0 rfl rfl ?_
  refine j_aload_n X 0 dX4_eventB_1 rfl rfl ?_
  refine j_get X hx rfl iwX4_eventB_X4 0 (by decide) lkX4_eventB_10 rfl dX4_eventB_2 ?_
  refine j_iload_n X 1 dX4_eventB_5 rfl rfl ?_
  refine j_iload_n X 2 dX4_eventB_6 rfl rfl ?_
  refine j_callV X nwSQ_ok (As := [.ref (x + 1), .int t, .int k]) (rest := []) hx rfl rfl (c_X4_admP l D hI b0 h hA t k hT hL hR hN) rfl gX4_eventB_X4_admit ⟨rfl, ddX4_admit⟩ ⟨Nat.le_of_ble_eq_true rfl, Nat.le_of_ble_eq_true rfl⟩ (Nat.le_of_ble_eq_true rfl) rfl dX4_eventB_7 ⟨(by show 0 + 0 ≤ 0; omega), (by show 0 + 0 ≤ 0; omega)⟩ (fun r140 M141 n142 hr143 => ?_)
  obtain ⟨rfl, rfl, rfl⟩ := hr143
  refine j_st (st := [.int (nI (A.countP (nr t k sp)))]) rfl ?_
  refine j_istore X dX4_eventB_10 (by decide) rfl (L' := [some (.ref x), some (.int t), some (.int k), some (.int v), some (.int (nI (A.countP (nr t k sp)))), none]) rfl ?_
  refine j_iload X dX4_eventB_12 rfl ?_
  refine j_if_ge X 20 dX4_eventB_14 (by decide) (fun c144 => ?_) (fun c144 => ?_)
  · skip
    refine j_iconst X dX4_eventB_20 (v := 0) (by decide) ?_
    refine j_istore X dX4_eventB_21 (by decide) rfl (L' := [some (.ref x), some (.int t), some (.int k), some (.int v), some (.int (nI (A.countP (nr t k sp)))), some (.int 0)]) rfl ?_
    exact loop A.length 0 M (by omega) (by rw [List.take_zero, List.filter_nil, List.map_nil, List.append_nil]; exact hQ) (fun _ _ => rfl)
  · skip
    exact absurd (nI_pos' (by omega)) c144
