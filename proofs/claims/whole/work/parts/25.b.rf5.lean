set_option maxHeartbeats 800000 in
set_option maxRecDepth 100000 in
theorem c_X5_evA0 (l : Launch) (D : va_G) {ty : jT} {cA : ClassId} (hI : ty[0]? = some (cA, .int)) (b0 : Nat) {M : jM} {n m : Nat} {w sl la sp rm ln mA mB lt pr tl tk sm my gr rc : Int32} {ft fk fv kp mk qa : Nat → Int32} {A B : List Ev} {qu : List Rec} (hm : M m = some (rfO m w sl la sp rm ln (nI qu.length) lt pr tl tk sm my gr rc)) (hr0 : RA M m ft fk fv kp mk qa) (hR0 : RLs ft fk fv kp mk qa mA mB A B qu) (t k v : Int32) (ht : -1000000000 ≤ t.toInt ∧ t.toInt ≤ 1000000000) (hTA : ∀ e ∈ A, -1000000000 ≤ e.1.toInt ∧ e.1.toInt ≤ 1000000000) (hTB : ∀ e ∈ B, -1000000000 ≤ e.1.toInt ∧ e.1.toInt ≤ 1000000000) (hown : A.length < 200) : Ct l D ty vwCl nwSQ b0 yX5_event wsX5_event 1 27 0 0 [.ref m, .int 0, .int t, .int k, .int v, .int 0] M n (fun r M' n' => r = some (.int (nI (B.countP (nr t k sp)))) ∧ n = n' ∧ M' m = some (rfO m w sl la sp rm ln (nI qu.length) lt pr tl tk sm my gr rc) ∧ RA M' m (upd ft (A.length) t) (upd fk (A.length) k) (upd fv (A.length) v) kp mk qa ∧ ∀ q, (q < m ∨ m + 6 < q) → M' q = M q) := by
  have hm : M m = some (.inr (5, [.int w, .int sl, .int la, .int sp, .int rm, .int ln, .ref (m + 1), .ref (m + 2), .ref (m + 3), .ref (m + 4), .ref (m + 5), .ref (m + 6), .int (nI qu.length), .int lt, .int pr, .int tl, .int tk, .int sm, .int my, .int gr, .int rc])) := hm
  obtain ⟨h1, h2, h3, h4, h5, h6⟩ := id hr0
  obtain ⟨hk0, hk1, hm0, hm1, hlA, hlB, hlQ, hA, hB, hQ⟩ := id hR0
  refine j_start (cc := cX5_event) (maxL := 12) (ret := (some .int)) (by decide) rfl [some (.ref m), some (.int 0), some (.int t), some (.int k), some (.int v), some (.int 0), none, none, none, none, none, none] (Nat.le_of_ble_eq_true rfl) rfl ?_
  intro p e s m0 below meth c X hlk hr hnm
  have loop : ∀ (z i : Nat) (Mi : jM) (qi : Nat → Int32), i + z = B.length → Mi m = some (rfO m w sl la sp rm ln (nI (qu).length) lt pr tl tk sm my gr rc) → RA Mi m (upd ft (A.length) t) (upd fk (A.length) k) (upd fv (A.length) v) kp mk qi → qi = qa → (∀ q, (q < m ∨ m + 6 < q) → Mi q = M q) → J p l e { frames := 1, cells := 0, slots := 0, locals := 27 } s m0 ([.ref m, .int 0, .int t, .int k, .int v, .int 0] : List Value).toArray below meth c D ty vwCl b0 (MQ below (j_Q D ty vwCl b0 (fun r M' n' => r = some (.int (nI (B.countP (nr t k sp)))) ∧ n = n' ∧ M' m = some (rfO m w sl la sp rm ln (nI qu.length) lt pr tl tk sm my gr rc) ∧ RA M' m (upd ft (A.length) t) (upd fk (A.length) k) (upd fv (A.length) v) kp mk qa ∧ ∀ q, (q < m ∨ m + 6 < q) → M' q = M q)) ([.ref m, .int 0, .int t, .int k, .int v, .int 0] : List Value).toArray s 0 0 (fun q => b0 ≤ q)) 12 Mi n 0 0 55 [some (.ref m), some (.int 0), some (.int t), some (.int k), some (.int v), some (.int 0), some (.int (nI (A.length))), some (.int 200), some (.int (nI ((B.take i).countP (nr t k sp)))), some (.int (nI (200 + i))), none, none] [] := by
    intro z
    induction z with
    | zero =>
      intro i Mi qi hz hmi hra hqi hfr
      have hir : i = B.length := by omega
      subst hir
      rw [List.take_length] at ⊢
      skip
      obtain ⟨h1, h2, h3, h4, h5, h6⟩ := id hra
      have hmi2 := hmi
      have hmi2 : Mi m = some (.inr (5, [.int w, .int sl, .int la, .int sp, .int rm, .int ln, .ref (m + 1), .ref (m + 2), .ref (m + 3), .ref (m + 4), .ref (m + 5), .ref (m + 6), .int (nI (qu).length), .int lt, .int pr, .int tl, .int tk, .int sm, .int my, .int gr, .int rc])) := hmi2
      refine j_iload X dX5_event_55 rfl ?_
      refine j_iload X dX5_event_57 rfl ?_
      refine j_aload_n X 0 dX5_event_59 rfl rfl ?_
      refine j_get X hmi2 rfl iwX5_event_X5 9 (by decide) lkX5_event_32 rfl dX5_event_60 ?_
      refine j_iconst X dX5_event_63 (v := 1) (by decide) ?_
      refine j_iload_n X 1 dX5_event_64 rfl rfl ?_
      refine j_isub X dX5_event_65 ?_
      refine j_st (st := [.int 1, .ref (m + 4), .int 200, .int (nI (200 + B.length))]) rfl ?_
      refine j_iald X h4 hI (vp_in_nI (n := 1) (by decide) (by decide)) (v := nI B.length) (hk1) dX5_event_66 ?_
      refine j_iadd X dX5_event_67 ?_
      refine j_st (st := [.int (nI (200 + B.length)), .int (nI (200 + B.length))]) (by rw [show 200 + (nI B.length) = nI (200 + B.length) from nI_add 200 _]) ?_
      refine j_icmp_ge X 156 dX5_event_68 (by decide) (fun c1 => ?_) (fun c1 => ?_)
      · skip
        refine j_iload X dX5_event_156 rfl ?_
        exact j_iret X hlk hr (by omega) (by omega) dX5_event_158 ⟨rfl, rfl, hmi, by rw [← hqi]; exact hra, hfr⟩
      · skip
        exact absurd (nI_le (by omega) (by omega)) c1
    | succ z ih =>
      intro i Mi qi hz hmi hra hqi hfr
      have hij : i < B.length := by omega
      obtain ⟨ev, hev⟩ : ∃ ev, B[i]? = some ev := ⟨_, List.getElem?_eq_getElem hij⟩
      have hevq := hB i hij
      rw [hev] at hevq
      have hevq := Option.some.inj hevq
      have hft := filter_take (p := nr t k sp) hev
      have hcn := take_count (p := nr t k sp) hev
      have hcl : (B.take (i + 1)).countP (nr t k sp) ≤ B.countP (nr t k sp) := (List.take_sublist _ _).countP_le
      have hnear := near_iff (k := k) (sp := sp) ht (hTB ev (List.mem_of_getElem? hev))
      obtain ⟨h1, h2, h3, h4, h5, h6⟩ := id hra
      have hmi2 : Mi m = some (.inr (5, [.int w, .int sl, .int la, .int sp, .int rm, .int ln, .ref (m + 1), .ref (m + 2), .ref (m + 3), .ref (m + 4), .ref (m + 5), .ref (m + 6), .int (nI (qu).length), .int lt, .int pr, .int tl, .int tk, .int sm, .int my, .int gr, .int rc])) := hmi
      refine j_iload X dX5_event_55 rfl ?_
      refine j_iload X dX5_event_57 rfl ?_
      refine j_aload_n X 0 dX5_event_59 rfl rfl ?_
      refine j_get X hmi2 rfl iwX5_event_X5 9 (by decide) lkX5_event_32 rfl dX5_event_60 ?_
      refine j_iconst X dX5_event_63 (v := 1) (by decide) ?_
      refine j_iload_n X 1 dX5_event_64 rfl rfl ?_
      refine j_isub X dX5_event_65 ?_
      refine j_st (st := [.int 1, .ref (m + 4), .int 200, .int (nI (200 + i))]) rfl ?_
      refine j_iald X h4 hI (vp_in_nI (n := 1) (by decide) (by decide)) (v := nI B.length) (hk1) dX5_event_66 ?_
      refine j_iadd X dX5_event_67 ?_
      refine j_st (st := [.int (nI (200 + B.length)), .int (nI (200 + i))]) (by rw [show 200 + (nI B.length) = nI (200 + B.length) from nI_add 200 _]) ?_
      refine j_icmp_ge X 156 dX5_event_68 (by decide) (fun c2 => ?_) (fun c2 => ?_)
      · skip
        exact absurd c2 (nI_ge (by omega) (by omega))
      · skip
        refine j_aload_n X 0 dX5_event_71 rfl rfl ?_
        refine j_iload X dX5_event_72 rfl ?_
        refine j_iload X dX5_event_74 rfl ?_
        refine j_callV X nwSQ_ok (As := [.int (nI (A.length)), .int (nI (200 + i))]) (rest := []) hmi2 rfl rfl (c_X5_areNear l D hI b0 hmi2 ⟨h1, h2, h3, h4, h5, h6⟩ (a := A.length) (b := 200 + i) (by omega) (by omega)) rfl gX5_event_X5_areNear ⟨rfl, ddX5_areNear⟩ ⟨Nat.le_of_ble_eq_true rfl, Nat.le_of_ble_eq_true rfl⟩ (Nat.le_of_ble_eq_true rfl) rfl dX5_event_76 ⟨(by show 0 + 0 ≤ 0; omega), (by show 0 + 0 ≤ 0; omega)⟩ (fun r3 M4 n5 hr6 => ?_)
        obtain ⟨rfl, rfl, rfl⟩ := hr6
        refine j_st (st := [.int (if nr t k sp ev then 1 else 0)]) (by rw [pk_us, pk_us, pk_un (show 200 + i ≠ A.length by omega), pk_un (show 200 + i ≠ A.length by omega), show fk (200 + i) = ev.2.1 by rw [hevq], show ft (200 + i) = ev.1 by rw [hevq], zo_iff hnear]; rfl) ?_
        refine j_if_eq X 150 dX5_event_79 (by decide) (fun c7 => ?_) (fun c7 => ?_)
        · skip
          refine j_iinc X dX5_event_150 rfl (v := nI (200 + i + 1)) (nI_1 _) (by decide) rfl (L' := [some (.ref m), some (.int 0), some (.int t), some (.int k), some (.int v), some (.int 0), some (.int (nI (A.length))), some (.int 200), some (.int (nI ((B.take i).countP (nr t k sp)))), some (.int (nI (200 + i + 1))), none, none]) rfl ?_
          refine j_goto X 55 dX5_event_153 (by decide) ?_
          refine j_wk (L2 := [some (.ref m), some (.int 0), some (.int t), some (.int k), some (.int v), some (.int 0), some (.int (nI (A.length))), some (.int 200), some (.int (nI ((B.take i).countP (nr t k sp)))), some (.int (nI (200 + i + 1))), none, none]) ⟨rfl, rfl, rfl, rfl, rfl, rfl, rfl, rfl, rfl, rfl, trivial⟩ ?_
          have hi := ih (i + 1)
          have hnr : nr t k sp ev = false := by cases hb : nr t k sp ev <;> simp [hb] at c7 ⊢
          rw [if_neg (by rw [hnr]; decide), Nat.add_zero] at hcn
          rw [hcn] at hi
          exact hi Mi qi (by omega) hmi hra hqi hfr
        · skip
          refine j_iinc X dX5_event_82 rfl (v := nI ((B.take i).countP (nr t k sp) + 1)) (nI_1 _) (by decide) rfl (L' := [some (.ref m), some (.int 0), some (.int t), some (.int k), some (.int v), some (.int 0), some (.int (nI (A.length))), some (.int 200), some (.int (nI ((B.take i).countP (nr t k sp) + 1))), some (.int (nI (200 + i))), none, none]) rfl ?_
          refine j_iload_n X 1 dX5_event_85 rfl rfl ?_
          refine j_if_ne X 94 dX5_event_86 (by decide) (fun c8 => ?_) (fun c8 => ?_)
          · skip
            exact absurd c8 (by decide)
          · skip
            refine j_iload X dX5_event_89 rfl ?_
            refine j_goto X 96 dX5_event_91 (by decide) ?_
            refine j_istore X dX5_event_96 (by decide) rfl (L' := [some (.ref m), some (.int 0), some (.int t), some (.int k), some (.int v), some (.int 0), some (.int (nI (A.length))), some (.int 200), some (.int (nI ((B.take i).countP (nr t k sp) + 1))), some (.int (nI (200 + i))), some (.int (nI (A.length))), none]) rfl ?_
            refine j_iload_n X 1 dX5_event_98 rfl rfl ?_
            refine j_if_ne X 107 dX5_event_99 (by decide) (fun c9 => ?_) (fun c9 => ?_)
            · skip
              exact absurd c9 (by decide)
            · skip
              refine j_iload X dX5_event_102 rfl ?_
              refine j_goto X 109 dX5_event_104 (by decide) ?_
              refine j_istore X dX5_event_109 (by decide) rfl (L' := [some (.ref m), some (.int 0), some (.int t), some (.int k), some (.int v), some (.int 0), some (.int (nI (A.length))), some (.int 200), some (.int (nI ((B.take i).countP (nr t k sp) + 1))), some (.int (nI (200 + i))), some (.int (nI (A.length))), some (.int (nI (200 + i)))]) rfl ?_
              refine j_iload X dX5_event_111 rfl ?_
              refine j_if_eq X 150 dX5_event_113 (by decide) (fun c10 => ?_) (fun c10 => ?_)
              · skip
                refine j_iinc X dX5_event_150 rfl (v := nI (200 + i + 1)) (nI_1 _) (by decide) rfl (L' := [some (.ref m), some (.int 0), some (.int t), some (.int k), some (.int v), some (.int 0), some (.int (nI (A.length))), some (.int 200), some (.int (nI ((B.take i).countP (nr t k sp) + 1))), some (.int (nI (200 + i + 1))), some (.int (nI (A.length))), some (.int (nI (200 + i)))]) rfl ?_
                refine j_goto X 55 dX5_event_153 (by decide) ?_
                refine j_wk (L2 := [some (.ref m), some (.int 0), some (.int t), some (.int k), some (.int v), some (.int 0), some (.int (nI (A.length))), some (.int 200), some (.int (nI ((B.take i).countP (nr t k sp) + 1))), some (.int (nI (200 + i + 1))), none, none]) ⟨rfl, rfl, rfl, rfl, rfl, rfl, rfl, rfl, rfl, rfl, trivial⟩ ?_
                have hi := ih (i + 1)
                have hnr : nr t k sp ev = true := by cases hb : nr t k sp ev <;> simp [hb] at c7 ⊢
                rw [if_pos hnr] at hcn
                rw [hcn] at hi
                exact hi Mi qi (by omega) hmi hra hqi hfr
              · skip
                exact absurd c10 (by decide)
  refine j_sipush X dX5_event_0 (v := 200) (by decide) ?_
  refine j_iload_n X 1 dX5_event_3 rfl rfl ?_
  refine j_imul X dX5_event_4 ?_
  refine j_st (st := [.int 0]) rfl ?_
  refine j_aload_n X 0 dX5_event_5 rfl rfl ?_
  refine j_get X hm rfl iwX5_event_X5 9 (by decide) lkX5_event_32 rfl dX5_event_6 ?_
  refine j_iload_n X 1 dX5_event_9 rfl rfl ?_
  refine j_iald X h4 hI (vp_in_nI (n := 0) (by decide) (by decide)) (v := nI A.length) (hk0) dX5_event_10 ?_
  refine j_iadd X dX5_event_11 ?_
  refine j_st (st := [.int (nI A.length)]) (by rw [show (0 : Int32) + (nI A.length) = nI A.length from (nI_add 0 _).trans (congrArg nI (Nat.zero_add _))]) ?_
  refine j_istore X dX5_event_12 (by decide) rfl (L' := [some (.ref m), some (.int 0), some (.int t), some (.int k), some (.int v), some (.int 0), some (.int (nI A.length)), none, none, none, none, none]) rfl ?_
  refine j_sipush X dX5_event_14 (v := 200) (by decide) ?_
  refine j_iconst X dX5_event_17 (v := 1) (by decide) ?_
  refine j_iload_n X 1 dX5_event_18 rfl rfl ?_
  refine j_isub X dX5_event_19 ?_
  refine j_st (st := [.int 1, .int 200]) rfl ?_
  refine j_imul X dX5_event_20 ?_
  refine j_st (st := [.int 200]) rfl ?_
  refine j_istore X dX5_event_21 (by decide) rfl (L' := [some (.ref m), some (.int 0), some (.int t), some (.int k), some (.int v), some (.int 0), some (.int (nI A.length)), some (.int 200), none, none, none, none]) rfl ?_
  refine j_aload_n X 0 dX5_event_23 rfl rfl ?_
  refine j_get X hm rfl iwX5_event_X5 6 (by decide) lkX5_event_22 rfl dX5_event_24 ?_
  refine j_iload X dX5_event_27 rfl ?_
  refine j_iload_n X 2 dX5_event_29 rfl rfl ?_
  refine j_iast X h1 hI (vp_in_nI (show A.length < 400 by omega) (by decide)) dX5_event_30 ?_
  rw [nI_clamp (show A.length < 2 ^ 31 by omega)]
  generalize eM11 : j_up M (m + 1) (.inl (0, 400, .inl (upd ft A.length t))) = M11
  have h12 : M11 m = some (.inr (5, [.int w, .int sl, .int la, .int sp, .int rm, .int ln, .ref (m + 1), .ref (m + 2), .ref (m + 3), .ref (m + 4), .ref (m + 5), .ref (m + 6), .int (nI qu.length), .int lt, .int pr, .int tl, .int tk, .int sm, .int my, .int gr, .int rc])) := by rw [← eM11, j_up_ne _ _ (by omega)]; exact hm
  have h14 : M11 (m + 2) = some (.inl (0, 400, .inl fk)) := by rw [← eM11, j_up_ne _ _ (by omega)]; exact h2
  have h15 : M11 (m + 3) = some (.inl (0, 400, .inl fv)) := by rw [← eM11, j_up_ne _ _ (by omega)]; exact h3
  have h16 : M11 (m + 4) = some (.inl (0, 2, .inl kp)) := by rw [← eM11, j_up_ne _ _ (by omega)]; exact h4
  have h17 : M11 (m + 5) = some (.inl (0, 2, .inl mk)) := by rw [← eM11, j_up_ne _ _ (by omega)]; exact h5
  have h18 : M11 (m + 6) = some (.inl (0, 2400, .inl qa)) := by rw [← eM11, j_up_ne _ _ (by omega)]; exact h6
  have h19 : M11 (m + 1) = some (.inl (0, 400, .inl (upd ft A.length t))) := by rw [← eM11]; exact j_up_self _ _ _
  refine j_aload_n X 0 dX5_event_31 rfl rfl ?_
  refine j_get X h12 rfl iwX5_event_X5 7 (by decide) lkX5_event_26 rfl dX5_event_32 ?_
  refine j_iload X dX5_event_35 rfl ?_
  refine j_iload_n X 3 dX5_event_37 rfl rfl ?_
  refine j_iast X h14 hI (vp_in_nI (show A.length < 400 by omega) (by decide)) dX5_event_38 ?_
  rw [nI_clamp (show A.length < 2 ^ 31 by omega)]
  generalize eM20 : j_up M11 (m + 2) (.inl (0, 400, .inl (upd fk A.length k))) = M20
  have h21 : M20 m = some (.inr (5, [.int w, .int sl, .int la, .int sp, .int rm, .int ln, .ref (m + 1), .ref (m + 2), .ref (m + 3), .ref (m + 4), .ref (m + 5), .ref (m + 6), .int (nI qu.length), .int lt, .int pr, .int tl, .int tk, .int sm, .int my, .int gr, .int rc])) := by rw [← eM20, j_up_ne _ _ (by omega)]; exact h12
  have h23 : M20 (m + 3) = some (.inl (0, 400, .inl fv)) := by rw [← eM20, j_up_ne _ _ (by omega)]; exact h15
  have h24 : M20 (m + 4) = some (.inl (0, 2, .inl kp)) := by rw [← eM20, j_up_ne _ _ (by omega)]; exact h16
  have h25 : M20 (m + 5) = some (.inl (0, 2, .inl mk)) := by rw [← eM20, j_up_ne _ _ (by omega)]; exact h17
  have h26 : M20 (m + 6) = some (.inl (0, 2400, .inl qa)) := by rw [← eM20, j_up_ne _ _ (by omega)]; exact h18
  have h27 : M20 (m + 1) = some (.inl (0, 400, .inl (upd ft A.length t))) := by rw [← eM20, j_up_ne _ _ (by omega)]; exact h19
  have h28 : M20 (m + 2) = some (.inl (0, 400, .inl (upd fk A.length k))) := by rw [← eM20]; exact j_up_self _ _ _
  refine j_aload_n X 0 dX5_event_39 rfl rfl ?_
  refine j_get X h21 rfl iwX5_event_X5 8 (by decide) lkX5_event_29 rfl dX5_event_40 ?_
  refine j_iload X dX5_event_43 rfl ?_
  refine j_iload X dX5_event_45 rfl ?_
  refine j_iast X h23 hI (vp_in_nI (show A.length < 400 by omega) (by decide)) dX5_event_47 ?_
  rw [nI_clamp (show A.length < 2 ^ 31 by omega)]
  generalize eM29 : j_up M20 (m + 3) (.inl (0, 400, .inl (upd fv A.length v))) = M29
  have h30 : M29 m = some (.inr (5, [.int w, .int sl, .int la, .int sp, .int rm, .int ln, .ref (m + 1), .ref (m + 2), .ref (m + 3), .ref (m + 4), .ref (m + 5), .ref (m + 6), .int (nI qu.length), .int lt, .int pr, .int tl, .int tk, .int sm, .int my, .int gr, .int rc])) := by rw [← eM29, j_up_ne _ _ (by omega)]; exact h21
  have h32 : M29 (m + 4) = some (.inl (0, 2, .inl kp)) := by rw [← eM29, j_up_ne _ _ (by omega)]; exact h24
  have h33 : M29 (m + 5) = some (.inl (0, 2, .inl mk)) := by rw [← eM29, j_up_ne _ _ (by omega)]; exact h25
  have h34 : M29 (m + 6) = some (.inl (0, 2400, .inl qa)) := by rw [← eM29, j_up_ne _ _ (by omega)]; exact h26
  have h35 : M29 (m + 1) = some (.inl (0, 400, .inl (upd ft A.length t))) := by rw [← eM29, j_up_ne _ _ (by omega)]; exact h27
  have h36 : M29 (m + 2) = some (.inl (0, 400, .inl (upd fk A.length k))) := by rw [← eM29, j_up_ne _ _ (by omega)]; exact h28
  have h37 : M29 (m + 3) = some (.inl (0, 400, .inl (upd fv A.length v))) := by rw [← eM29]; exact j_up_self _ _ _
  refine j_iconst X dX5_event_48 (v := 0) (by decide) ?_
  refine j_istore X dX5_event_49 (by decide) rfl (L' := [some (.ref m), some (.int 0), some (.int t), some (.int k), some (.int v), some (.int 0), some (.int (nI A.length)), some (.int 200), some (.int 0), none, none, none]) rfl ?_
  refine j_iload X dX5_event_51 rfl ?_
  refine j_istore X dX5_event_53 (by decide) rfl (L' := [some (.ref m), some (.int 0), some (.int t), some (.int k), some (.int v), some (.int 0), some (.int (nI A.length)), some (.int 200), some (.int 0), some (.int 200), none, none]) rfl ?_
  refine j_wk (L2 := [some (.ref m), some (.int 0), some (.int t), some (.int k), some (.int v), some (.int 0), some (.int (nI A.length)), some (.int 200), some (.int 0), some (.int 200), none, none]) ⟨rfl, rfl, rfl, rfl, rfl, rfl, rfl, rfl, rfl, rfl, trivial⟩ ?_
  exact loop B.length 0 M29 qa (by omega) h30 ⟨h35, h36, h37, h32, h33, h34⟩ rfl (fun q hq => by rw [← eM29, j_up_ne _ _ (by omega), ← eM20, j_up_ne _ _ (by omega), ← eM11, j_up_ne _ _ (by omega)])
set_option maxHeartbeats 800000 in
set_option maxRecDepth 100000 in
theorem c_X5_evA1 (l : Launch) (D : va_G) {ty : jT} {cA : ClassId} (hI : ty[0]? = some (cA, .int)) (b0 : Nat) {M : jM} {n m : Nat} {w sl la sp rm ln mA mB lt pr tl tk sm my gr rc : Int32} {ft fk fv kp mk qa : Nat → Int32} {A B : List Ev} {qu : List Rec} (hm : M m = some (rfO m w sl la sp rm ln (nI qu.length) lt pr tl tk sm my gr rc)) (hr0 : RA M m ft fk fv kp mk qa) (hR0 : RLs ft fk fv kp mk qa mA mB A B qu) (t k v : Int32) (ht : -1000000000 ≤ t.toInt ∧ t.toInt ≤ 1000000000) (hTA : ∀ e ∈ A, -1000000000 ≤ e.1.toInt ∧ e.1.toInt ≤ 1000000000) (hTB : ∀ e ∈ B, -1000000000 ≤ e.1.toInt ∧ e.1.toInt ≤ 1000000000) (hown : A.length < 200) (hq4 : qu.length + B.countP (nr t k sp) ≤ 400) : Ct l D ty vwCl nwSQ b0 yX5_event wsX5_event 1 27 0 0 [.ref m, .int 0, .int t, .int k, .int v, .int 1] M n (fun r M' n' => r = some (.int (nI (B.countP (nr t k sp)))) ∧ n = n' ∧ ∃ qb, M' m = some (rfO m w sl la sp rm ln (nI (qu ++ ((B).filter (nr t k sp)).map (fun e : Ev => ((2, t, e.1, k, v, e.2.2) : Rec))).length) lt pr tl tk sm my gr rc) ∧ RA M' m (upd ft (A.length) t) (upd fk (A.length) k) (upd fv (A.length) v) kp mk qb ∧ (∀ i, i < (qu ++ ((B).filter (nr t k sp)).map (fun e : Ev => ((2, t, e.1, k, v, e.2.2) : Rec))).length → (qu ++ ((B).filter (nr t k sp)).map (fun e : Ev => ((2, t, e.1, k, v, e.2.2) : Rec)))[i]? = some (rowAt qb (6 * i))) ∧ ∀ q, (q < m ∨ m + 6 < q) → M' q = M q) := by
  have hm : M m = some (.inr (5, [.int w, .int sl, .int la, .int sp, .int rm, .int ln, .ref (m + 1), .ref (m + 2), .ref (m + 3), .ref (m + 4), .ref (m + 5), .ref (m + 6), .int (nI qu.length), .int lt, .int pr, .int tl, .int tk, .int sm, .int my, .int gr, .int rc])) := hm
  obtain ⟨h1, h2, h3, h4, h5, h6⟩ := id hr0
  obtain ⟨hk0, hk1, hm0, hm1, hlA, hlB, hlQ, hA, hB, hQ⟩ := id hR0
  refine j_start (cc := cX5_event) (maxL := 12) (ret := (some .int)) (by decide) rfl [some (.ref m), some (.int 0), some (.int t), some (.int k), some (.int v), some (.int 1), none, none, none, none, none, none] (Nat.le_of_ble_eq_true rfl) rfl ?_
  intro p e s m0 below meth c X hlk hr hnm
  have loop : ∀ (z i : Nat) (Mi : jM) (qi : Nat → Int32), i + z = B.length → Mi m = some (rfO m w sl la sp rm ln (nI (qu ++ ((B.take i).filter (nr t k sp)).map (fun e : Ev => ((2, t, e.1, k, v, e.2.2) : Rec))).length) lt pr tl tk sm my gr rc) → RA Mi m (upd ft (A.length) t) (upd fk (A.length) k) (upd fv (A.length) v) kp mk qi → (∀ j, j < (qu ++ ((B.take i).filter (nr t k sp)).map (fun e : Ev => ((2, t, e.1, k, v, e.2.2) : Rec))).length → (qu ++ ((B.take i).filter (nr t k sp)).map (fun e : Ev => ((2, t, e.1, k, v, e.2.2) : Rec)))[j]? = some (rowAt qi (6 * j))) → (∀ q, (q < m ∨ m + 6 < q) → Mi q = M q) → J p l e { frames := 1, cells := 0, slots := 0, locals := 27 } s m0 ([.ref m, .int 0, .int t, .int k, .int v, .int 1] : List Value).toArray below meth c D ty vwCl b0 (MQ below (j_Q D ty vwCl b0 (fun r M' n' => r = some (.int (nI (B.countP (nr t k sp)))) ∧ n = n' ∧ ∃ qb, M' m = some (rfO m w sl la sp rm ln (nI (qu ++ ((B).filter (nr t k sp)).map (fun e : Ev => ((2, t, e.1, k, v, e.2.2) : Rec))).length) lt pr tl tk sm my gr rc) ∧ RA M' m (upd ft (A.length) t) (upd fk (A.length) k) (upd fv (A.length) v) kp mk qb ∧ (∀ i, i < (qu ++ ((B).filter (nr t k sp)).map (fun e : Ev => ((2, t, e.1, k, v, e.2.2) : Rec))).length → (qu ++ ((B).filter (nr t k sp)).map (fun e : Ev => ((2, t, e.1, k, v, e.2.2) : Rec)))[i]? = some (rowAt qb (6 * i))) ∧ ∀ q, (q < m ∨ m + 6 < q) → M' q = M q)) ([.ref m, .int 0, .int t, .int k, .int v, .int 1] : List Value).toArray s 0 0 (fun q => b0 ≤ q)) 12 Mi n 0 0 55 [some (.ref m), some (.int 0), some (.int t), some (.int k), some (.int v), some (.int 1), some (.int (nI (A.length))), some (.int 200), some (.int (nI ((B.take i).countP (nr t k sp)))), some (.int (nI (200 + i))), none, none] [] := by
    intro z
    induction z with
    | zero =>
      intro i Mi qi hz hmi hra hqi hfr
      have hir : i = B.length := by omega
      subst hir
      rw [List.take_length] at hmi hqi
      rw [List.take_length]
      obtain ⟨h1, h2, h3, h4, h5, h6⟩ := id hra
      have hmi2 := hmi
      have hmi2 : Mi m = some (.inr (5, [.int w, .int sl, .int la, .int sp, .int rm, .int ln, .ref (m + 1), .ref (m + 2), .ref (m + 3), .ref (m + 4), .ref (m + 5), .ref (m + 6), .int (nI (qu ++ ((B).filter (nr t k sp)).map (fun e : Ev => ((2, t, e.1, k, v, e.2.2) : Rec))).length), .int lt, .int pr, .int tl, .int tk, .int sm, .int my, .int gr, .int rc])) := hmi2
      refine j_iload X dX5_event_55 rfl ?_
      refine j_iload X dX5_event_57 rfl ?_
      refine j_aload_n X 0 dX5_event_59 rfl rfl ?_
      refine j_get X hmi2 rfl iwX5_event_X5 9 (by decide) lkX5_event_32 rfl dX5_event_60 ?_
      refine j_iconst X dX5_event_63 (v := 1) (by decide) ?_
      refine j_iload_n X 1 dX5_event_64 rfl rfl ?_
      refine j_isub X dX5_event_65 ?_
      refine j_st (st := [.int 1, .ref (m + 4), .int 200, .int (nI (200 + B.length))]) rfl ?_
      refine j_iald X h4 hI (vp_in_nI (n := 1) (by decide) (by decide)) (v := nI B.length) (hk1) dX5_event_66 ?_
      refine j_iadd X dX5_event_67 ?_
      refine j_st (st := [.int (nI (200 + B.length)), .int (nI (200 + B.length))]) (by rw [show 200 + (nI B.length) = nI (200 + B.length) from nI_add 200 _]) ?_
      refine j_icmp_ge X 156 dX5_event_68 (by decide) (fun c38 => ?_) (fun c38 => ?_)
      · skip
        refine j_iload X dX5_event_156 rfl ?_
        exact j_iret X hlk hr (by omega) (by omega) dX5_event_158 ⟨rfl, rfl, qi, hmi, hra, hqi, hfr⟩
      · skip
        exact absurd (nI_le (by omega) (by omega)) c38
    | succ z ih =>
      intro i Mi qi hz hmi hra hqi hfr
      have hij : i < B.length := by omega
      obtain ⟨ev, hev⟩ : ∃ ev, B[i]? = some ev := ⟨_, List.getElem?_eq_getElem hij⟩
      have hevq := hB i hij
      rw [hev] at hevq
      have hevq := Option.some.inj hevq
      have hft := filter_take (p := nr t k sp) hev
      have hcn := take_count (p := nr t k sp) hev
      have hcl : (B.take (i + 1)).countP (nr t k sp) ≤ B.countP (nr t k sp) := (List.take_sublist _ _).countP_le
      have hnear := near_iff (k := k) (sp := sp) ht (hTB ev (List.mem_of_getElem? hev))
      obtain ⟨h1, h2, h3, h4, h5, h6⟩ := id hra
      have hmi2 : Mi m = some (.inr (5, [.int w, .int sl, .int la, .int sp, .int rm, .int ln, .ref (m + 1), .ref (m + 2), .ref (m + 3), .ref (m + 4), .ref (m + 5), .ref (m + 6), .int (nI (qu ++ ((B.take i).filter (nr t k sp)).map (fun e : Ev => ((2, t, e.1, k, v, e.2.2) : Rec))).length), .int lt, .int pr, .int tl, .int tk, .int sm, .int my, .int gr, .int rc])) := hmi
      refine j_iload X dX5_event_55 rfl ?_
      refine j_iload X dX5_event_57 rfl ?_
      refine j_aload_n X 0 dX5_event_59 rfl rfl ?_
      refine j_get X hmi2 rfl iwX5_event_X5 9 (by decide) lkX5_event_32 rfl dX5_event_60 ?_
      refine j_iconst X dX5_event_63 (v := 1) (by decide) ?_
      refine j_iload_n X 1 dX5_event_64 rfl rfl ?_
      refine j_isub X dX5_event_65 ?_
      refine j_st (st := [.int 1, .ref (m + 4), .int 200, .int (nI (200 + i))]) rfl ?_
      refine j_iald X h4 hI (vp_in_nI (n := 1) (by decide) (by decide)) (v := nI B.length) (hk1) dX5_event_66 ?_
      refine j_iadd X dX5_event_67 ?_
      refine j_st (st := [.int (nI (200 + B.length)), .int (nI (200 + i))]) (by rw [show 200 + (nI B.length) = nI (200 + B.length) from nI_add 200 _]) ?_
      refine j_icmp_ge X 156 dX5_event_68 (by decide) (fun c39 => ?_) (fun c39 => ?_)
      · skip
        exact absurd c39 (nI_ge (by omega) (by omega))
      · skip
        refine j_aload_n X 0 dX5_event_71 rfl rfl ?_
        refine j_iload X dX5_event_72 rfl ?_
        refine j_iload X dX5_event_74 rfl ?_
        refine j_callV X nwSQ_ok (As := [.int (nI (A.length)), .int (nI (200 + i))]) (rest := []) hmi2 rfl rfl (c_X5_areNear l D hI b0 hmi2 ⟨h1, h2, h3, h4, h5, h6⟩ (a := A.length) (b := 200 + i) (by omega) (by omega)) rfl gX5_event_X5_areNear ⟨rfl, ddX5_areNear⟩ ⟨Nat.le_of_ble_eq_true rfl, Nat.le_of_ble_eq_true rfl⟩ (Nat.le_of_ble_eq_true rfl) rfl dX5_event_76 ⟨(by show 0 + 0 ≤ 0; omega), (by show 0 + 0 ≤ 0; omega)⟩ (fun r40 M41 n42 hr43 => ?_)
        obtain ⟨rfl, rfl, rfl⟩ := hr43
        refine j_st (st := [.int (if nr t k sp ev then 1 else 0)]) (by rw [pk_us, pk_us, pk_un (show 200 + i ≠ A.length by omega), pk_un (show 200 + i ≠ A.length by omega), show fk (200 + i) = ev.2.1 by rw [hevq], show ft (200 + i) = ev.1 by rw [hevq], zo_iff hnear]; rfl) ?_
        refine j_if_eq X 150 dX5_event_79 (by decide) (fun c44 => ?_) (fun c44 => ?_)
        · skip
          refine j_iinc X dX5_event_150 rfl (v := nI (200 + i + 1)) (nI_1 _) (by decide) rfl (L' := [some (.ref m), some (.int 0), some (.int t), some (.int k), some (.int v), some (.int 1), some (.int (nI (A.length))), some (.int 200), some (.int (nI ((B.take i).countP (nr t k sp)))), some (.int (nI (200 + i + 1))), none, none]) rfl ?_
          refine j_goto X 55 dX5_event_153 (by decide) ?_
          refine j_wk (L2 := [some (.ref m), some (.int 0), some (.int t), some (.int k), some (.int v), some (.int 1), some (.int (nI (A.length))), some (.int 200), some (.int (nI ((B.take i).countP (nr t k sp)))), some (.int (nI (200 + i + 1))), none, none]) ⟨rfl, rfl, rfl, rfl, rfl, rfl, rfl, rfl, rfl, rfl, trivial⟩ ?_
          have hi := ih (i + 1)
          have hnr : nr t k sp ev = false := by cases hb : nr t k sp ev <;> simp [hb] at c44 ⊢
          rw [if_neg (by rw [hnr]; decide), Nat.add_zero] at hcn
          rw [if_neg (by rw [hnr]; decide), List.append_nil] at hft
          rw [hcn, hft] at hi
          exact hi Mi qi (by omega) hmi hra hqi hfr
        · skip
          refine j_iinc X dX5_event_82 rfl (v := nI ((B.take i).countP (nr t k sp) + 1)) (nI_1 _) (by decide) rfl (L' := [some (.ref m), some (.int 0), some (.int t), some (.int k), some (.int v), some (.int 1), some (.int (nI (A.length))), some (.int 200), some (.int (nI ((B.take i).countP (nr t k sp) + 1))), some (.int (nI (200 + i))), none, none]) rfl ?_
          refine j_iload_n X 1 dX5_event_85 rfl rfl ?_
          refine j_if_ne X 94 dX5_event_86 (by decide) (fun c45 => ?_) (fun c45 => ?_)
          · skip
            exact absurd c45 (by decide)
          · skip
            refine j_iload X dX5_event_89 rfl ?_
            refine j_goto X 96 dX5_event_91 (by decide) ?_
            refine j_istore X dX5_event_96 (by decide) rfl (L' := [some (.ref m), some (.int 0), some (.int t), some (.int k), some (.int v), some (.int 1), some (.int (nI (A.length))), some (.int 200), some (.int (nI ((B.take i).countP (nr t k sp) + 1))), some (.int (nI (200 + i))), some (.int (nI (A.length))), none]) rfl ?_
            refine j_iload_n X 1 dX5_event_98 rfl rfl ?_
            refine j_if_ne X 107 dX5_event_99 (by decide) (fun c46 => ?_) (fun c46 => ?_)
            · skip
              exact absurd c46 (by decide)
            · skip
              refine j_iload X dX5_event_102 rfl ?_
              refine j_goto X 109 dX5_event_104 (by decide) ?_
              refine j_istore X dX5_event_109 (by decide) rfl (L' := [some (.ref m), some (.int 0), some (.int t), some (.int k), some (.int v), some (.int 1), some (.int (nI (A.length))), some (.int 200), some (.int (nI ((B.take i).countP (nr t k sp) + 1))), some (.int (nI (200 + i))), some (.int (nI (A.length))), some (.int (nI (200 + i)))]) rfl ?_
              refine j_iload X dX5_event_111 rfl ?_
              refine j_if_eq X 150 dX5_event_113 (by decide) (fun c47 => ?_) (fun c47 => ?_)
              · skip
                exact absurd c47 (by decide)
              · skip
                refine j_aload_n X 0 dX5_event_116 rfl rfl ?_
                refine j_iconst X dX5_event_117 (v := 2) (by decide) ?_
                refine j_aload_n X 0 dX5_event_118 rfl rfl ?_
                refine j_get X hmi2 rfl iwX5_event_X5 6 (by decide) lkX5_event_22 rfl dX5_event_119 ?_
                refine j_iload X dX5_event_122 rfl ?_
                refine j_iald X h1 hI (vp_in_nI (show A.length < 400 by omega) (by decide)) (v := t) (by rw [nI_clamp (show A.length < 2 ^ 31 by omega)]; exact pk_us) dX5_event_124 ?_
                refine j_aload_n X 0 dX5_event_125 rfl rfl ?_
                refine j_get X hmi2 rfl iwX5_event_X5 6 (by decide) lkX5_event_22 rfl dX5_event_126 ?_
                refine j_iload X dX5_event_129 rfl ?_
                refine j_iald X h1 hI (vp_in_nI (show 200 + i < 400 by omega) (by decide)) (v := ev.1) (by rw [nI_clamp (show 200 + i < 2 ^ 31 by omega), pk_un (by omega), hevq]) dX5_event_131 ?_
                refine j_iload_n X 3 dX5_event_132 rfl rfl ?_
                refine j_aload_n X 0 dX5_event_133 rfl rfl ?_
                refine j_get X hmi2 rfl iwX5_event_X5 8 (by decide) lkX5_event_29 rfl dX5_event_134 ?_
                refine j_iload X dX5_event_137 rfl ?_
                refine j_iald X h3 hI (vp_in_nI (show A.length < 400 by omega) (by decide)) (v := v) (by rw [nI_clamp (show A.length < 2 ^ 31 by omega)]; exact pk_us) dX5_event_139 ?_
                refine j_aload_n X 0 dX5_event_140 rfl rfl ?_
                refine j_get X hmi2 rfl iwX5_event_X5 8 (by decide) lkX5_event_29 rfl dX5_event_141 ?_
                refine j_iload X dX5_event_144 rfl ?_
                refine j_iald X h3 hI (vp_in_nI (show 200 + i < 400 by omega) (by decide)) (v := ev.2.2) (by rw [nI_clamp (show 200 + i < 2 ^ 31 by omega), pk_un (by omega), hevq]) dX5_event_146 ?_
                have hnr : nr t k sp ev = true := by cases hb : nr t k sp ev <;> simp [hb] at c44 ⊢
                rw [if_pos hnr] at hcn hft
                have hql : (qu ++ ((B.take i).filter (nr t k sp)).map (fun e : Ev => ((2, t, e.1, k, v, e.2.2) : Rec))).length < 400 := by rw [List.length_append, List.length_map, ← List.countP_eq_length_filter]; omega
                refine j_callV X nwSQ_ok (As := [.int 2, .int t, .int ev.1, .int k, .int v, .int ev.2.2]) (rest := []) hmi2 rfl rfl (c_X5_record l D hI b0 (qd := 0) hmi2 ⟨h1, h2, h3, h4, h5, h6⟩ hql 2 t ev.1 k v ev.2.2) rfl gX5_event_X5_record ⟨rfl, ddX5_record⟩ ⟨Nat.le_of_ble_eq_true rfl, Nat.le_of_ble_eq_true rfl⟩ (Nat.le_of_ble_eq_true rfl) rfl dX5_event_147 ⟨(by show 0 + 0 ≤ 0; omega), (by show 0 + 0 ≤ 0; omega)⟩ (fun r48 M49 n50 hr51 => ?_)
                obtain ⟨rfl, rfl, hm3, hr3, hf3⟩ := hr51
                refine j_st (st := []) rfl ?_
                refine j_iinc X dX5_event_150 rfl (v := nI (200 + i + 1)) (nI_1 _) (by decide) rfl (L' := [some (.ref m), some (.int 0), some (.int t), some (.int k), some (.int v), some (.int 1), some (.int (nI (A.length))), some (.int 200), some (.int (nI ((B.take i).countP (nr t k sp) + 1))), some (.int (nI (200 + i + 1))), some (.int (nI (A.length))), some (.int (nI (200 + i)))]) rfl ?_
                refine j_goto X 55 dX5_event_153 (by decide) ?_
                refine j_wk (L2 := [some (.ref m), some (.int 0), some (.int t), some (.int k), some (.int v), some (.int 1), some (.int (nI (A.length))), some (.int 200), some (.int (nI ((B.take i).countP (nr t k sp) + 1))), some (.int (nI (200 + i + 1))), none, none]) ⟨rfl, rfl, rfl, rfl, rfl, rfl, rfl, rfl, rfl, rfl, trivial⟩ ?_
                have hi := ih (i + 1)
                have hqn : qu ++ ((B.take (i + 1)).filter (nr t k sp)).map (fun e : Ev => ((2, t, e.1, k, v, e.2.2) : Rec)) = (qu ++ ((B.take i).filter (nr t k sp)).map (fun e : Ev => ((2, t, e.1, k, v, e.2.2) : Rec))) ++ [(2, t, ev.1, k, v, ev.2.2)] := by rw [hft, List.map_append, ← List.append_assoc]; rfl
                rw [hcn, hqn] at hi
                exact hi M49 _ (by omega) (by rw [List.length_append]; exact hm3) hr3 (q_push hqi _ _ _ _ _ _) (fun q hq => (hf3 q hq).trans (hfr q hq))
  refine j_sipush X dX5_event_0 (v := 200) (by decide) ?_
  refine j_iload_n X 1 dX5_event_3 rfl rfl ?_
  refine j_imul X dX5_event_4 ?_
  refine j_st (st := [.int 0]) rfl ?_
  refine j_aload_n X 0 dX5_event_5 rfl rfl ?_
  refine j_get X hm rfl iwX5_event_X5 9 (by decide) lkX5_event_32 rfl dX5_event_6 ?_
  refine j_iload_n X 1 dX5_event_9 rfl rfl ?_
  refine j_iald X h4 hI (vp_in_nI (n := 0) (by decide) (by decide)) (v := nI A.length) (hk0) dX5_event_10 ?_
  refine j_iadd X dX5_event_11 ?_
  refine j_st (st := [.int (nI A.length)]) (by rw [show (0 : Int32) + (nI A.length) = nI A.length from (nI_add 0 _).trans (congrArg nI (Nat.zero_add _))]) ?_
  refine j_istore X dX5_event_12 (by decide) rfl (L' := [some (.ref m), some (.int 0), some (.int t), some (.int k), some (.int v), some (.int 1), some (.int (nI A.length)), none, none, none, none, none]) rfl ?_
  refine j_sipush X dX5_event_14 (v := 200) (by decide) ?_
  refine j_iconst X dX5_event_17 (v := 1) (by decide) ?_
  refine j_iload_n X 1 dX5_event_18 rfl rfl ?_
  refine j_isub X dX5_event_19 ?_
  refine j_st (st := [.int 1, .int 200]) rfl ?_
  refine j_imul X dX5_event_20 ?_
  refine j_st (st := [.int 200]) rfl ?_
  refine j_istore X dX5_event_21 (by decide) rfl (L' := [some (.ref m), some (.int 0), some (.int t), some (.int k), some (.int v), some (.int 1), some (.int (nI A.length)), some (.int 200), none, none, none, none]) rfl ?_
  refine j_aload_n X 0 dX5_event_23 rfl rfl ?_
  refine j_get X hm rfl iwX5_event_X5 6 (by decide) lkX5_event_22 rfl dX5_event_24 ?_
  refine j_iload X dX5_event_27 rfl ?_
  refine j_iload_n X 2 dX5_event_29 rfl rfl ?_
  refine j_iast X h1 hI (vp_in_nI (show A.length < 400 by omega) (by decide)) dX5_event_30 ?_
  rw [nI_clamp (show A.length < 2 ^ 31 by omega)]
  generalize eM52 : j_up M (m + 1) (.inl (0, 400, .inl (upd ft A.length t))) = M52
  have h53 : M52 m = some (.inr (5, [.int w, .int sl, .int la, .int sp, .int rm, .int ln, .ref (m + 1), .ref (m + 2), .ref (m + 3), .ref (m + 4), .ref (m + 5), .ref (m + 6), .int (nI qu.length), .int lt, .int pr, .int tl, .int tk, .int sm, .int my, .int gr, .int rc])) := by rw [← eM52, j_up_ne _ _ (by omega)]; exact hm
  have h55 : M52 (m + 2) = some (.inl (0, 400, .inl fk)) := by rw [← eM52, j_up_ne _ _ (by omega)]; exact h2
  have h56 : M52 (m + 3) = some (.inl (0, 400, .inl fv)) := by rw [← eM52, j_up_ne _ _ (by omega)]; exact h3
  have h57 : M52 (m + 4) = some (.inl (0, 2, .inl kp)) := by rw [← eM52, j_up_ne _ _ (by omega)]; exact h4
  have h58 : M52 (m + 5) = some (.inl (0, 2, .inl mk)) := by rw [← eM52, j_up_ne _ _ (by omega)]; exact h5
  have h59 : M52 (m + 6) = some (.inl (0, 2400, .inl qa)) := by rw [← eM52, j_up_ne _ _ (by omega)]; exact h6
  have h60 : M52 (m + 1) = some (.inl (0, 400, .inl (upd ft A.length t))) := by rw [← eM52]; exact j_up_self _ _ _
  refine j_aload_n X 0 dX5_event_31 rfl rfl ?_
  refine j_get X h53 rfl iwX5_event_X5 7 (by decide) lkX5_event_26 rfl dX5_event_32 ?_
  refine j_iload X dX5_event_35 rfl ?_
  refine j_iload_n X 3 dX5_event_37 rfl rfl ?_
  refine j_iast X h55 hI (vp_in_nI (show A.length < 400 by omega) (by decide)) dX5_event_38 ?_
  rw [nI_clamp (show A.length < 2 ^ 31 by omega)]
  generalize eM61 : j_up M52 (m + 2) (.inl (0, 400, .inl (upd fk A.length k))) = M61
  have h62 : M61 m = some (.inr (5, [.int w, .int sl, .int la, .int sp, .int rm, .int ln, .ref (m + 1), .ref (m + 2), .ref (m + 3), .ref (m + 4), .ref (m + 5), .ref (m + 6), .int (nI qu.length), .int lt, .int pr, .int tl, .int tk, .int sm, .int my, .int gr, .int rc])) := by rw [← eM61, j_up_ne _ _ (by omega)]; exact h53
  have h64 : M61 (m + 3) = some (.inl (0, 400, .inl fv)) := by rw [← eM61, j_up_ne _ _ (by omega)]; exact h56
  have h65 : M61 (m + 4) = some (.inl (0, 2, .inl kp)) := by rw [← eM61, j_up_ne _ _ (by omega)]; exact h57
  have h66 : M61 (m + 5) = some (.inl (0, 2, .inl mk)) := by rw [← eM61, j_up_ne _ _ (by omega)]; exact h58
  have h67 : M61 (m + 6) = some (.inl (0, 2400, .inl qa)) := by rw [← eM61, j_up_ne _ _ (by omega)]; exact h59
  have h68 : M61 (m + 1) = some (.inl (0, 400, .inl (upd ft A.length t))) := by rw [← eM61, j_up_ne _ _ (by omega)]; exact h60
  have h69 : M61 (m + 2) = some (.inl (0, 400, .inl (upd fk A.length k))) := by rw [← eM61]; exact j_up_self _ _ _
  refine j_aload_n X 0 dX5_event_39 rfl rfl ?_
  refine j_get X h62 rfl iwX5_event_X5 8 (by decide) lkX5_event_29 rfl dX5_event_40 ?_
  refine j_iload X dX5_event_43 rfl ?_
  refine j_iload X dX5_event_45 rfl ?_
  refine j_iast X h64 hI (vp_in_nI (show A.length < 400 by omega) (by decide)) dX5_event_47 ?_
  rw [nI_clamp (show A.length < 2 ^ 31 by omega)]
  generalize eM70 : j_up M61 (m + 3) (.inl (0, 400, .inl (upd fv A.length v))) = M70
  have h71 : M70 m = some (.inr (5, [.int w, .int sl, .int la, .int sp, .int rm, .int ln, .ref (m + 1), .ref (m + 2), .ref (m + 3), .ref (m + 4), .ref (m + 5), .ref (m + 6), .int (nI qu.length), .int lt, .int pr, .int tl, .int tk, .int sm, .int my, .int gr, .int rc])) := by rw [← eM70, j_up_ne _ _ (by omega)]; exact h62
  have h73 : M70 (m + 4) = some (.inl (0, 2, .inl kp)) := by rw [← eM70, j_up_ne _ _ (by omega)]; exact h65
  have h74 : M70 (m + 5) = some (.inl (0, 2, .inl mk)) := by rw [← eM70, j_up_ne _ _ (by omega)]; exact h66
  have h75 : M70 (m + 6) = some (.inl (0, 2400, .inl qa)) := by rw [← eM70, j_up_ne _ _ (by omega)]; exact h67
  have h76 : M70 (m + 1) = some (.inl (0, 400, .inl (upd ft A.length t))) := by rw [← eM70, j_up_ne _ _ (by omega)]; exact h68
  have h77 : M70 (m + 2) = some (.inl (0, 400, .inl (upd fk A.length k))) := by rw [← eM70, j_up_ne _ _ (by omega)]; exact h69
  have h78 : M70 (m + 3) = some (.inl (0, 400, .inl (upd fv A.length v))) := by rw [← eM70]; exact j_up_self _ _ _
  refine j_iconst X dX5_event_48 (v := 0) (by decide) ?_
  refine j_istore X dX5_event_49 (by decide) rfl (L' := [some (.ref m), some (.int 0), some (.int t), some (.int k), some (.int v), some (.int 1), some (.int (nI A.length)), some (.int 200), some (.int 0), none, none, none]) rfl ?_
  refine j_iload X dX5_event_51 rfl ?_
  refine j_istore X dX5_event_53 (by decide) rfl (L' := [some (.ref m), some (.int 0), some (.int t), some (.int k), some (.int v), some (.int 1), some (.int (nI A.length)), some (.int 200), some (.int 0), some (.int 200), none, none]) rfl ?_
  refine j_wk (L2 := [some (.ref m), some (.int 0), some (.int t), some (.int k), some (.int v), some (.int 1), some (.int (nI A.length)), some (.int 200), some (.int 0), some (.int 200), none, none]) ⟨rfl, rfl, rfl, rfl, rfl, rfl, rfl, rfl, rfl, rfl, trivial⟩ ?_
  exact loop B.length 0 M70 qa (by omega) (by rw [List.take_zero, List.filter_nil, List.map_nil, List.append_nil]; exact h71) ⟨h76, h77, h78, h73, h74, h75⟩ (by rw [List.take_zero, List.filter_nil, List.map_nil, List.append_nil]; exact hQ) (fun q hq => by rw [← eM70, j_up_ne _ _ (by omega), ← eM61, j_up_ne _ _ (by omega), ← eM52, j_up_ne _ _ (by omega)])
set_option maxHeartbeats 800000 in
set_option maxRecDepth 100000 in
theorem c_X5_evB0 (l : Launch) (D : va_G) {ty : jT} {cA : ClassId} (hI : ty[0]? = some (cA, .int)) (b0 : Nat) {M : jM} {n m : Nat} {w sl la sp rm ln mA mB lt pr tl tk sm my gr rc : Int32} {ft fk fv kp mk qa : Nat → Int32} {A B : List Ev} {qu : List Rec} (hm : M m = some (rfO m w sl la sp rm ln (nI qu.length) lt pr tl tk sm my gr rc)) (hr0 : RA M m ft fk fv kp mk qa) (hR0 : RLs ft fk fv kp mk qa mA mB A B qu) (t k v : Int32) (ht : -1000000000 ≤ t.toInt ∧ t.toInt ≤ 1000000000) (hTA : ∀ e ∈ A, -1000000000 ≤ e.1.toInt ∧ e.1.toInt ≤ 1000000000) (hTB : ∀ e ∈ B, -1000000000 ≤ e.1.toInt ∧ e.1.toInt ≤ 1000000000) (hown : B.length < 200) : Ct l D ty vwCl nwSQ b0 yX5_event wsX5_event 1 27 0 0 [.ref m, .int 1, .int t, .int k, .int v, .int 0] M n (fun r M' n' => r = some (.int (nI (A.countP (nr t k sp)))) ∧ n = n' ∧ M' m = some (rfO m w sl la sp rm ln (nI qu.length) lt pr tl tk sm my gr rc) ∧ RA M' m (upd ft (200 + B.length) t) (upd fk (200 + B.length) k) (upd fv (200 + B.length) v) kp mk qa ∧ ∀ q, (q < m ∨ m + 6 < q) → M' q = M q) := by
  have hm : M m = some (.inr (5, [.int w, .int sl, .int la, .int sp, .int rm, .int ln, .ref (m + 1), .ref (m + 2), .ref (m + 3), .ref (m + 4), .ref (m + 5), .ref (m + 6), .int (nI qu.length), .int lt, .int pr, .int tl, .int tk, .int sm, .int my, .int gr, .int rc])) := hm
  obtain ⟨h1, h2, h3, h4, h5, h6⟩ := id hr0
  obtain ⟨hk0, hk1, hm0, hm1, hlA, hlB, hlQ, hA, hB, hQ⟩ := id hR0
  refine j_start (cc := cX5_event) (maxL := 12) (ret := (some .int)) (by decide) rfl [some (.ref m), some (.int 1), some (.int t), some (.int k), some (.int v), some (.int 0), none, none, none, none, none, none] (Nat.le_of_ble_eq_true rfl) rfl ?_
  intro p e s m0 below meth c X hlk hr hnm
  have loop : ∀ (z i : Nat) (Mi : jM) (qi : Nat → Int32), i + z = A.length → Mi m = some (rfO m w sl la sp rm ln (nI (qu).length) lt pr tl tk sm my gr rc) → RA Mi m (upd ft (200 + B.length) t) (upd fk (200 + B.length) k) (upd fv (200 + B.length) v) kp mk qi → qi = qa → (∀ q, (q < m ∨ m + 6 < q) → Mi q = M q) → J p l e { frames := 1, cells := 0, slots := 0, locals := 27 } s m0 ([.ref m, .int 1, .int t, .int k, .int v, .int 0] : List Value).toArray below meth c D ty vwCl b0 (MQ below (j_Q D ty vwCl b0 (fun r M' n' => r = some (.int (nI (A.countP (nr t k sp)))) ∧ n = n' ∧ M' m = some (rfO m w sl la sp rm ln (nI qu.length) lt pr tl tk sm my gr rc) ∧ RA M' m (upd ft (200 + B.length) t) (upd fk (200 + B.length) k) (upd fv (200 + B.length) v) kp mk qa ∧ ∀ q, (q < m ∨ m + 6 < q) → M' q = M q)) ([.ref m, .int 1, .int t, .int k, .int v, .int 0] : List Value).toArray s 0 0 (fun q => b0 ≤ q)) 12 Mi n 0 0 55 [some (.ref m), some (.int 1), some (.int t), some (.int k), some (.int v), some (.int 0), some (.int (nI (200 + B.length))), some (.int 0), some (.int (nI ((A.take i).countP (nr t k sp)))), some (.int (nI (i))), none, none] [] := by
    intro z
    induction z with
    | zero =>
      intro i Mi qi hz hmi hra hqi hfr
      have hir : i = A.length := by omega
      subst hir
      rw [List.take_length] at ⊢
      skip
      obtain ⟨h1, h2, h3, h4, h5, h6⟩ := id hra
      have hmi2 := hmi
      have hmi2 : Mi m = some (.inr (5, [.int w, .int sl, .int la, .int sp, .int rm, .int ln, .ref (m + 1), .ref (m + 2), .ref (m + 3), .ref (m + 4), .ref (m + 5), .ref (m + 6), .int (nI (qu).length), .int lt, .int pr, .int tl, .int tk, .int sm, .int my, .int gr, .int rc])) := hmi2
      refine j_iload X dX5_event_55 rfl ?_
      refine j_iload X dX5_event_57 rfl ?_
      refine j_aload_n X 0 dX5_event_59 rfl rfl ?_
      refine j_get X hmi2 rfl iwX5_event_X5 9 (by decide) lkX5_event_32 rfl dX5_event_60 ?_
      refine j_iconst X dX5_event_63 (v := 1) (by decide) ?_
      refine j_iload_n X 1 dX5_event_64 rfl rfl ?_
      refine j_isub X dX5_event_65 ?_
      refine j_st (st := [.int 0, .ref (m + 4), .int 0, .int (nI A.length)]) rfl ?_
      refine j_iald X h4 hI (vp_in_nI (n := 0) (by decide) (by decide)) (v := nI A.length) (hk0) dX5_event_66 ?_
      refine j_iadd X dX5_event_67 ?_
      refine j_st (st := [.int (nI A.length), .int (nI A.length)]) (by rw [show (0 : Int32) + (nI A.length) = nI A.length from (nI_add 0 _).trans (congrArg nI (Nat.zero_add _))]) ?_
      refine j_icmp_ge X 156 dX5_event_68 (by decide) (fun c79 => ?_) (fun c79 => ?_)
      · skip
        refine j_iload X dX5_event_156 rfl ?_
        exact j_iret X hlk hr (by omega) (by omega) dX5_event_158 ⟨rfl, rfl, hmi, by rw [← hqi]; exact hra, hfr⟩
      · skip
        exact absurd (nI_le (by omega) (by omega)) c79
    | succ z ih =>
      intro i Mi qi hz hmi hra hqi hfr
      have hij : i < A.length := by omega
      obtain ⟨ev, hev⟩ : ∃ ev, A[i]? = some ev := ⟨_, List.getElem?_eq_getElem hij⟩
      have hevq := hA i hij
      rw [hev] at hevq
      have hevq := Option.some.inj hevq
      have hft := filter_take (p := nr t k sp) hev
      have hcn := take_count (p := nr t k sp) hev
      have hcl : (A.take (i + 1)).countP (nr t k sp) ≤ A.countP (nr t k sp) := (List.take_sublist _ _).countP_le
      have hnear := near_iff (k := k) (sp := sp) ht (hTA ev (List.mem_of_getElem? hev))
      obtain ⟨h1, h2, h3, h4, h5, h6⟩ := id hra
      have hmi2 : Mi m = some (.inr (5, [.int w, .int sl, .int la, .int sp, .int rm, .int ln, .ref (m + 1), .ref (m + 2), .ref (m + 3), .ref (m + 4), .ref (m + 5), .ref (m + 6), .int (nI (qu).length), .int lt, .int pr, .int tl, .int tk, .int sm, .int my, .int gr, .int rc])) := hmi
      refine j_iload X dX5_event_55 rfl ?_
      refine j_iload X dX5_event_57 rfl ?_
      refine j_aload_n X 0 dX5_event_59 rfl rfl ?_
      refine j_get X hmi2 rfl iwX5_event_X5 9 (by decide) lkX5_event_32 rfl dX5_event_60 ?_
      refine j_iconst X dX5_event_63 (v := 1) (by decide) ?_
      refine j_iload_n X 1 dX5_event_64 rfl rfl ?_
      refine j_isub X dX5_event_65 ?_
      refine j_st (st := [.int 0, .ref (m + 4), .int 0, .int (nI (i))]) rfl ?_
      refine j_iald X h4 hI (vp_in_nI (n := 0) (by decide) (by decide)) (v := nI A.length) (hk0) dX5_event_66 ?_
      refine j_iadd X dX5_event_67 ?_
      refine j_st (st := [.int (nI A.length), .int (nI (i))]) (by rw [show (0 : Int32) + (nI A.length) = nI A.length from (nI_add 0 _).trans (congrArg nI (Nat.zero_add _))]) ?_
      refine j_icmp_ge X 156 dX5_event_68 (by decide) (fun c80 => ?_) (fun c80 => ?_)
      · skip
        exact absurd c80 (nI_ge (by omega) (by omega))
      · skip
        refine j_aload_n X 0 dX5_event_71 rfl rfl ?_
        refine j_iload X dX5_event_72 rfl ?_
        refine j_iload X dX5_event_74 rfl ?_
        refine j_callV X nwSQ_ok (As := [.int (nI (200 + B.length)), .int (nI (i))]) (rest := []) hmi2 rfl rfl (c_X5_areNear l D hI b0 hmi2 ⟨h1, h2, h3, h4, h5, h6⟩ (a := 200 + B.length) (b := i) (by omega) (by omega)) rfl gX5_event_X5_areNear ⟨rfl, ddX5_areNear⟩ ⟨Nat.le_of_ble_eq_true rfl, Nat.le_of_ble_eq_true rfl⟩ (Nat.le_of_ble_eq_true rfl) rfl dX5_event_76 ⟨(by show 0 + 0 ≤ 0; omega), (by show 0 + 0 ≤ 0; omega)⟩ (fun r81 M82 n83 hr84 => ?_)
        obtain ⟨rfl, rfl, rfl⟩ := hr84
        refine j_st (st := [.int (if nr t k sp ev then 1 else 0)]) (by rw [pk_us, pk_us, pk_un (show i ≠ 200 + B.length by omega), pk_un (show i ≠ 200 + B.length by omega), show fk (i) = ev.2.1 by rw [hevq], show ft (i) = ev.1 by rw [hevq], zo_iff hnear]; rfl) ?_
        refine j_if_eq X 150 dX5_event_79 (by decide) (fun c85 => ?_) (fun c85 => ?_)
        · skip
          refine j_iinc X dX5_event_150 rfl (v := nI (i + 1)) (nI_1 _) (by decide) rfl (L' := [some (.ref m), some (.int 1), some (.int t), some (.int k), some (.int v), some (.int 0), some (.int (nI (200 + B.length))), some (.int 0), some (.int (nI ((A.take i).countP (nr t k sp)))), some (.int (nI (i + 1))), none, none]) rfl ?_
          refine j_goto X 55 dX5_event_153 (by decide) ?_
          refine j_wk (L2 := [some (.ref m), some (.int 1), some (.int t), some (.int k), some (.int v), some (.int 0), some (.int (nI (200 + B.length))), some (.int 0), some (.int (nI ((A.take i).countP (nr t k sp)))), some (.int (nI (i + 1))), none, none]) ⟨rfl, rfl, rfl, rfl, rfl, rfl, rfl, rfl, rfl, rfl, trivial⟩ ?_
          have hi := ih (i + 1)
          have hnr : nr t k sp ev = false := by cases hb : nr t k sp ev <;> simp [hb] at c85 ⊢
          rw [if_neg (by rw [hnr]; decide), Nat.add_zero] at hcn
          rw [hcn] at hi
          exact hi Mi qi (by omega) hmi hra hqi hfr
        · skip
          refine j_iinc X dX5_event_82 rfl (v := nI ((A.take i).countP (nr t k sp) + 1)) (nI_1 _) (by decide) rfl (L' := [some (.ref m), some (.int 1), some (.int t), some (.int k), some (.int v), some (.int 0), some (.int (nI (200 + B.length))), some (.int 0), some (.int (nI ((A.take i).countP (nr t k sp) + 1))), some (.int (nI (i))), none, none]) rfl ?_
          refine j_iload_n X 1 dX5_event_85 rfl rfl ?_
          refine j_if_ne X 94 dX5_event_86 (by decide) (fun c86 => ?_) (fun c86 => ?_)
          · skip
            refine j_iload X dX5_event_94 rfl ?_
            refine j_istore X dX5_event_96 (by decide) rfl (L' := [some (.ref m), some (.int 1), some (.int t), some (.int k), some (.int v), some (.int 0), some (.int (nI (200 + B.length))), some (.int 0), some (.int (nI ((A.take i).countP (nr t k sp) + 1))), some (.int (nI (i))), some (.int (nI (i))), none]) rfl ?_
            refine j_iload_n X 1 dX5_event_98 rfl rfl ?_
            refine j_if_ne X 107 dX5_event_99 (by decide) (fun c87 => ?_) (fun c87 => ?_)
            · skip
              refine j_iload X dX5_event_107 rfl ?_
              refine j_istore X dX5_event_109 (by decide) rfl (L' := [some (.ref m), some (.int 1), some (.int t), some (.int k), some (.int v), some (.int 0), some (.int (nI (200 + B.length))), some (.int 0), some (.int (nI ((A.take i).countP (nr t k sp) + 1))), some (.int (nI (i))), some (.int (nI (i))), some (.int (nI (200 + B.length)))]) rfl ?_
              refine j_iload X dX5_event_111 rfl ?_
              refine j_if_eq X 150 dX5_event_113 (by decide) (fun c88 => ?_) (fun c88 => ?_)
              · skip
                refine j_iinc X dX5_event_150 rfl (v := nI (i + 1)) (nI_1 _) (by decide) rfl (L' := [some (.ref m), some (.int 1), some (.int t), some (.int k), some (.int v), some (.int 0), some (.int (nI (200 + B.length))), some (.int 0), some (.int (nI ((A.take i).countP (nr t k sp) + 1))), some (.int (nI (i + 1))), some (.int (nI (i))), some (.int (nI (200 + B.length)))]) rfl ?_
                refine j_goto X 55 dX5_event_153 (by decide) ?_
                refine j_wk (L2 := [some (.ref m), some (.int 1), some (.int t), some (.int k), some (.int v), some (.int 0), some (.int (nI (200 + B.length))), some (.int 0), some (.int (nI ((A.take i).countP (nr t k sp) + 1))), some (.int (nI (i + 1))), none, none]) ⟨rfl, rfl, rfl, rfl, rfl, rfl, rfl, rfl, rfl, rfl, trivial⟩ ?_
                have hi := ih (i + 1)
                have hnr : nr t k sp ev = true := by cases hb : nr t k sp ev <;> simp [hb] at c85 ⊢
                rw [if_pos hnr] at hcn
                rw [hcn] at hi
                exact hi Mi qi (by omega) hmi hra hqi hfr
              · skip
                exact absurd c88 (by decide)
            · skip
              exact absurd c87 (by decide)
          · skip
            exact absurd c86 (by decide)
  refine j_sipush X dX5_event_0 (v := 200) (by decide) ?_
  refine j_iload_n X 1 dX5_event_3 rfl rfl ?_
  refine j_imul X dX5_event_4 ?_
  refine j_st (st := [.int 200]) rfl ?_
  refine j_aload_n X 0 dX5_event_5 rfl rfl ?_
  refine j_get X hm rfl iwX5_event_X5 9 (by decide) lkX5_event_32 rfl dX5_event_6 ?_
  refine j_iload_n X 1 dX5_event_9 rfl rfl ?_
  refine j_iald X h4 hI (vp_in_nI (n := 1) (by decide) (by decide)) (v := nI B.length) (hk1) dX5_event_10 ?_
  refine j_iadd X dX5_event_11 ?_
  refine j_st (st := [.int (nI (200 + B.length))]) (by rw [show 200 + (nI B.length) = nI (200 + B.length) from nI_add 200 _]) ?_
  refine j_istore X dX5_event_12 (by decide) rfl (L' := [some (.ref m), some (.int 1), some (.int t), some (.int k), some (.int v), some (.int 0), some (.int (nI (200 + B.length))), none, none, none, none, none]) rfl ?_
  refine j_sipush X dX5_event_14 (v := 200) (by decide) ?_
  refine j_iconst X dX5_event_17 (v := 1) (by decide) ?_
  refine j_iload_n X 1 dX5_event_18 rfl rfl ?_
  refine j_isub X dX5_event_19 ?_
  refine j_st (st := [.int 0, .int 200]) rfl ?_
  refine j_imul X dX5_event_20 ?_
  refine j_st (st := [.int 0]) rfl ?_
  refine j_istore X dX5_event_21 (by decide) rfl (L' := [some (.ref m), some (.int 1), some (.int t), some (.int k), some (.int v), some (.int 0), some (.int (nI (200 + B.length))), some (.int 0), none, none, none, none]) rfl ?_
  refine j_aload_n X 0 dX5_event_23 rfl rfl ?_
  refine j_get X hm rfl iwX5_event_X5 6 (by decide) lkX5_event_22 rfl dX5_event_24 ?_
  refine j_iload X dX5_event_27 rfl ?_
  refine j_iload_n X 2 dX5_event_29 rfl rfl ?_
  refine j_iast X h1 hI (vp_in_nI (show 200 + B.length < 400 by omega) (by decide)) dX5_event_30 ?_
  rw [nI_clamp (show 200 + B.length < 2 ^ 31 by omega)]
  generalize eM89 : j_up M (m + 1) (.inl (0, 400, .inl (upd ft (200 + B.length) t))) = M89
  have h90 : M89 m = some (.inr (5, [.int w, .int sl, .int la, .int sp, .int rm, .int ln, .ref (m + 1), .ref (m + 2), .ref (m + 3), .ref (m + 4), .ref (m + 5), .ref (m + 6), .int (nI qu.length), .int lt, .int pr, .int tl, .int tk, .int sm, .int my, .int gr, .int rc])) := by rw [← eM89, j_up_ne _ _ (by omega)]; exact hm
  have h92 : M89 (m + 2) = some (.inl (0, 400, .inl fk)) := by rw [← eM89, j_up_ne _ _ (by omega)]; exact h2
  have h93 : M89 (m + 3) = some (.inl (0, 400, .inl fv)) := by rw [← eM89, j_up_ne _ _ (by omega)]; exact h3
  have h94 : M89 (m + 4) = some (.inl (0, 2, .inl kp)) := by rw [← eM89, j_up_ne _ _ (by omega)]; exact h4
  have h95 : M89 (m + 5) = some (.inl (0, 2, .inl mk)) := by rw [← eM89, j_up_ne _ _ (by omega)]; exact h5
  have h96 : M89 (m + 6) = some (.inl (0, 2400, .inl qa)) := by rw [← eM89, j_up_ne _ _ (by omega)]; exact h6
  have h97 : M89 (m + 1) = some (.inl (0, 400, .inl (upd ft (200 + B.length) t))) := by rw [← eM89]; exact j_up_self _ _ _
  refine j_aload_n X 0 dX5_event_31 rfl rfl ?_
  refine j_get X h90 rfl iwX5_event_X5 7 (by decide) lkX5_event_26 rfl dX5_event_32 ?_
  refine j_iload X dX5_event_35 rfl ?_
  refine j_iload_n X 3 dX5_event_37 rfl rfl ?_
  refine j_iast X h92 hI (vp_in_nI (show 200 + B.length < 400 by omega) (by decide)) dX5_event_38 ?_
  rw [nI_clamp (show 200 + B.length < 2 ^ 31 by omega)]
  generalize eM98 : j_up M89 (m + 2) (.inl (0, 400, .inl (upd fk (200 + B.length) k))) = M98
  have h99 : M98 m = some (.inr (5, [.int w, .int sl, .int la, .int sp, .int rm, .int ln, .ref (m + 1), .ref (m + 2), .ref (m + 3), .ref (m + 4), .ref (m + 5), .ref (m + 6), .int (nI qu.length), .int lt, .int pr, .int tl, .int tk, .int sm, .int my, .int gr, .int rc])) := by rw [← eM98, j_up_ne _ _ (by omega)]; exact h90
  have h101 : M98 (m + 3) = some (.inl (0, 400, .inl fv)) := by rw [← eM98, j_up_ne _ _ (by omega)]; exact h93
  have h102 : M98 (m + 4) = some (.inl (0, 2, .inl kp)) := by rw [← eM98, j_up_ne _ _ (by omega)]; exact h94
  have h103 : M98 (m + 5) = some (.inl (0, 2, .inl mk)) := by rw [← eM98, j_up_ne _ _ (by omega)]; exact h95
  have h104 : M98 (m + 6) = some (.inl (0, 2400, .inl qa)) := by rw [← eM98, j_up_ne _ _ (by omega)]; exact h96
  have h105 : M98 (m + 1) = some (.inl (0, 400, .inl (upd ft (200 + B.length) t))) := by rw [← eM98, j_up_ne _ _ (by omega)]; exact h97
  have h106 : M98 (m + 2) = some (.inl (0, 400, .inl (upd fk (200 + B.length) k))) := by rw [← eM98]; exact j_up_self _ _ _
  refine j_aload_n X 0 dX5_event_39 rfl rfl ?_
  refine j_get X h99 rfl iwX5_event_X5 8 (by decide) lkX5_event_29 rfl dX5_event_40 ?_
  refine j_iload X dX5_event_43 rfl ?_
  refine j_iload X dX5_event_45 rfl ?_
  refine j_iast X h101 hI (vp_in_nI (show 200 + B.length < 400 by omega) (by decide)) dX5_event_47 ?_
  rw [nI_clamp (show 200 + B.length < 2 ^ 31 by omega)]
  generalize eM107 : j_up M98 (m + 3) (.inl (0, 400, .inl (upd fv (200 + B.length) v))) = M107
  have h108 : M107 m = some (.inr (5, [.int w, .int sl, .int la, .int sp, .int rm, .int ln, .ref (m + 1), .ref (m + 2), .ref (m + 3), .ref (m + 4), .ref (m + 5), .ref (m + 6), .int (nI qu.length), .int lt, .int pr, .int tl, .int tk, .int sm, .int my, .int gr, .int rc])) := by rw [← eM107, j_up_ne _ _ (by omega)]; exact h99
  have h110 : M107 (m + 4) = some (.inl (0, 2, .inl kp)) := by rw [← eM107, j_up_ne _ _ (by omega)]; exact h102
  have h111 : M107 (m + 5) = some (.inl (0, 2, .inl mk)) := by rw [← eM107, j_up_ne _ _ (by omega)]; exact h103
  have h112 : M107 (m + 6) = some (.inl (0, 2400, .inl qa)) := by rw [← eM107, j_up_ne _ _ (by omega)]; exact h104
  have h113 : M107 (m + 1) = some (.inl (0, 400, .inl (upd ft (200 + B.length) t))) := by rw [← eM107, j_up_ne _ _ (by omega)]; exact h105
  have h114 : M107 (m + 2) = some (.inl (0, 400, .inl (upd fk (200 + B.length) k))) := by rw [← eM107, j_up_ne _ _ (by omega)]; exact h106
  have h115 : M107 (m + 3) = some (.inl (0, 400, .inl (upd fv (200 + B.length) v))) := by rw [← eM107]; exact j_up_self _ _ _
  refine j_iconst X dX5_event_48 (v := 0) (by decide) ?_
  refine j_istore X dX5_event_49 (by decide) rfl (L' := [some (.ref m), some (.int 1), some (.int t), some (.int k), some (.int v), some (.int 0), some (.int (nI (200 + B.length))), some (.int 0), some (.int 0), none, none, none]) rfl ?_
  refine j_iload X dX5_event_51 rfl ?_
  refine j_istore X dX5_event_53 (by decide) rfl (L' := [some (.ref m), some (.int 1), some (.int t), some (.int k), some (.int v), some (.int 0), some (.int (nI (200 + B.length))), some (.int 0), some (.int 0), some (.int 0), none, none]) rfl ?_
  refine j_wk (L2 := [some (.ref m), some (.int 1), some (.int t), some (.int k), some (.int v), some (.int 0), some (.int (nI (200 + B.length))), some (.int 0), some (.int 0), some (.int 0), none, none]) ⟨rfl, rfl, rfl, rfl, rfl, rfl, rfl, rfl, rfl, rfl, trivial⟩ ?_
  exact loop A.length 0 M107 qa (by omega) h108 ⟨h113, h114, h115, h110, h111, h112⟩ rfl (fun q hq => by rw [← eM107, j_up_ne _ _ (by omega), ← eM98, j_up_ne _ _ (by omega), ← eM89, j_up_ne _ _ (by omega)])
set_option maxHeartbeats 800000 in
set_option maxRecDepth 100000 in
theorem c_X5_evB1 (l : Launch) (D : va_G) {ty : jT} {cA : ClassId} (hI : ty[0]? = some (cA, .int)) (b0 : Nat) {M : jM} {n m : Nat} {w sl la sp rm ln mA mB lt pr tl tk sm my gr rc : Int32} {ft fk fv kp mk qa : Nat → Int32} {A B : List Ev} {qu : List Rec} (hm : M m = some (rfO m w sl la sp rm ln (nI qu.length) lt pr tl tk sm my gr rc)) (hr0 : RA M m ft fk fv kp mk qa) (hR0 : RLs ft fk fv kp mk qa mA mB A B qu) (t k v : Int32) (ht : -1000000000 ≤ t.toInt ∧ t.toInt ≤ 1000000000) (hTA : ∀ e ∈ A, -1000000000 ≤ e.1.toInt ∧ e.1.toInt ≤ 1000000000) (hTB : ∀ e ∈ B, -1000000000 ≤ e.1.toInt ∧ e.1.toInt ≤ 1000000000) (hown : B.length < 200) (hq4 : qu.length + A.countP (nr t k sp) ≤ 400) : Ct l D ty vwCl nwSQ b0 yX5_event wsX5_event 1 27 0 0 [.ref m, .int 1, .int t, .int k, .int v, .int 1] M n (fun r M' n' => r = some (.int (nI (A.countP (nr t k sp)))) ∧ n = n' ∧ ∃ qb, M' m = some (rfO m w sl la sp rm ln (nI (qu ++ ((A).filter (nr t k sp)).map (fun e : Ev => ((2, e.1, t, k, e.2.2, v) : Rec))).length) lt pr tl tk sm my gr rc) ∧ RA M' m (upd ft (200 + B.length) t) (upd fk (200 + B.length) k) (upd fv (200 + B.length) v) kp mk qb ∧ (∀ i, i < (qu ++ ((A).filter (nr t k sp)).map (fun e : Ev => ((2, e.1, t, k, e.2.2, v) : Rec))).length → (qu ++ ((A).filter (nr t k sp)).map (fun e : Ev => ((2, e.1, t, k, e.2.2, v) : Rec)))[i]? = some (rowAt qb (6 * i))) ∧ ∀ q, (q < m ∨ m + 6 < q) → M' q = M q) := by
  have hm : M m = some (.inr (5, [.int w, .int sl, .int la, .int sp, .int rm, .int ln, .ref (m + 1), .ref (m + 2), .ref (m + 3), .ref (m + 4), .ref (m + 5), .ref (m + 6), .int (nI qu.length), .int lt, .int pr, .int tl, .int tk, .int sm, .int my, .int gr, .int rc])) := hm
  obtain ⟨h1, h2, h3, h4, h5, h6⟩ := id hr0
  obtain ⟨hk0, hk1, hm0, hm1, hlA, hlB, hlQ, hA, hB, hQ⟩ := id hR0
  refine j_start (cc := cX5_event) (maxL := 12) (ret := (some .int)) (by decide) rfl [some (.ref m), some (.int 1), some (.int t), some (.int k), some (.int v), some (.int 1), none, none, none, none, none, none] (Nat.le_of_ble_eq_true rfl) rfl ?_
  intro p e s m0 below meth c X hlk hr hnm
  have loop : ∀ (z i : Nat) (Mi : jM) (qi : Nat → Int32), i + z = A.length → Mi m = some (rfO m w sl la sp rm ln (nI (qu ++ ((A.take i).filter (nr t k sp)).map (fun e : Ev => ((2, e.1, t, k, e.2.2, v) : Rec))).length) lt pr tl tk sm my gr rc) → RA Mi m (upd ft (200 + B.length) t) (upd fk (200 + B.length) k) (upd fv (200 + B.length) v) kp mk qi → (∀ j, j < (qu ++ ((A.take i).filter (nr t k sp)).map (fun e : Ev => ((2, e.1, t, k, e.2.2, v) : Rec))).length → (qu ++ ((A.take i).filter (nr t k sp)).map (fun e : Ev => ((2, e.1, t, k, e.2.2, v) : Rec)))[j]? = some (rowAt qi (6 * j))) → (∀ q, (q < m ∨ m + 6 < q) → Mi q = M q) → J p l e { frames := 1, cells := 0, slots := 0, locals := 27 } s m0 ([.ref m, .int 1, .int t, .int k, .int v, .int 1] : List Value).toArray below meth c D ty vwCl b0 (MQ below (j_Q D ty vwCl b0 (fun r M' n' => r = some (.int (nI (A.countP (nr t k sp)))) ∧ n = n' ∧ ∃ qb, M' m = some (rfO m w sl la sp rm ln (nI (qu ++ ((A).filter (nr t k sp)).map (fun e : Ev => ((2, e.1, t, k, e.2.2, v) : Rec))).length) lt pr tl tk sm my gr rc) ∧ RA M' m (upd ft (200 + B.length) t) (upd fk (200 + B.length) k) (upd fv (200 + B.length) v) kp mk qb ∧ (∀ i, i < (qu ++ ((A).filter (nr t k sp)).map (fun e : Ev => ((2, e.1, t, k, e.2.2, v) : Rec))).length → (qu ++ ((A).filter (nr t k sp)).map (fun e : Ev => ((2, e.1, t, k, e.2.2, v) : Rec)))[i]? = some (rowAt qb (6 * i))) ∧ ∀ q, (q < m ∨ m + 6 < q) → M' q = M q)) ([.ref m, .int 1, .int t, .int k, .int v, .int 1] : List Value).toArray s 0 0 (fun q => b0 ≤ q)) 12 Mi n 0 0 55 [some (.ref m), some (.int 1), some (.int t), some (.int k), some (.int v), some (.int 1), some (.int (nI (200 + B.length))), some (.int 0), some (.int (nI ((A.take i).countP (nr t k sp)))), some (.int (nI (i))), none, none] [] := by
    intro z
    induction z with
    | zero =>
      intro i Mi qi hz hmi hra hqi hfr
      have hir : i = A.length := by omega
      subst hir
      rw [List.take_length] at hmi hqi
      rw [List.take_length]
      obtain ⟨h1, h2, h3, h4, h5, h6⟩ := id hra
      have hmi2 := hmi
      have hmi2 : Mi m = some (.inr (5, [.int w, .int sl, .int la, .int sp, .int rm, .int ln, .ref (m + 1), .ref (m + 2), .ref (m + 3), .ref (m + 4), .ref (m + 5), .ref (m + 6), .int (nI (qu ++ ((A).filter (nr t k sp)).map (fun e : Ev => ((2, e.1, t, k, e.2.2, v) : Rec))).length), .int lt, .int pr, .int tl, .int tk, .int sm, .int my, .int gr, .int rc])) := hmi2
      refine j_iload X dX5_event_55 rfl ?_
      refine j_iload X dX5_event_57 rfl ?_
      refine j_aload_n X 0 dX5_event_59 rfl rfl ?_
      refine j_get X hmi2 rfl iwX5_event_X5 9 (by decide) lkX5_event_32 rfl dX5_event_60 ?_
      refine j_iconst X dX5_event_63 (v := 1) (by decide) ?_
      refine j_iload_n X 1 dX5_event_64 rfl rfl ?_
      refine j_isub X dX5_event_65 ?_
      refine j_st (st := [.int 0, .ref (m + 4), .int 0, .int (nI A.length)]) rfl ?_
      refine j_iald X h4 hI (vp_in_nI (n := 0) (by decide) (by decide)) (v := nI A.length) (hk0) dX5_event_66 ?_
      refine j_iadd X dX5_event_67 ?_
      refine j_st (st := [.int (nI A.length), .int (nI A.length)]) (by rw [show (0 : Int32) + (nI A.length) = nI A.length from (nI_add 0 _).trans (congrArg nI (Nat.zero_add _))]) ?_
      refine j_icmp_ge X 156 dX5_event_68 (by decide) (fun c116 => ?_) (fun c116 => ?_)
      · skip
        refine j_iload X dX5_event_156 rfl ?_
        exact j_iret X hlk hr (by omega) (by omega) dX5_event_158 ⟨rfl, rfl, qi, hmi, hra, hqi, hfr⟩
      · skip
        exact absurd (nI_le (by omega) (by omega)) c116
    | succ z ih =>
      intro i Mi qi hz hmi hra hqi hfr
      have hij : i < A.length := by omega
      obtain ⟨ev, hev⟩ : ∃ ev, A[i]? = some ev := ⟨_, List.getElem?_eq_getElem hij⟩
      have hevq := hA i hij
      rw [hev] at hevq
      have hevq := Option.some.inj hevq
      have hft := filter_take (p := nr t k sp) hev
      have hcn := take_count (p := nr t k sp) hev
      have hcl : (A.take (i + 1)).countP (nr t k sp) ≤ A.countP (nr t k sp) := (List.take_sublist _ _).countP_le
      have hnear := near_iff (k := k) (sp := sp) ht (hTA ev (List.mem_of_getElem? hev))
      obtain ⟨h1, h2, h3, h4, h5, h6⟩ := id hra
      have hmi2 : Mi m = some (.inr (5, [.int w, .int sl, .int la, .int sp, .int rm, .int ln, .ref (m + 1), .ref (m + 2), .ref (m + 3), .ref (m + 4), .ref (m + 5), .ref (m + 6), .int (nI (qu ++ ((A.take i).filter (nr t k sp)).map (fun e : Ev => ((2, e.1, t, k, e.2.2, v) : Rec))).length), .int lt, .int pr, .int tl, .int tk, .int sm, .int my, .int gr, .int rc])) := hmi
      refine j_iload X dX5_event_55 rfl ?_
      refine j_iload X dX5_event_57 rfl ?_
      refine j_aload_n X 0 dX5_event_59 rfl rfl ?_
      refine j_get X hmi2 rfl iwX5_event_X5 9 (by decide) lkX5_event_32 rfl dX5_event_60 ?_
      refine j_iconst X dX5_event_63 (v := 1) (by decide) ?_
      refine j_iload_n X 1 dX5_event_64 rfl rfl ?_
      refine j_isub X dX5_event_65 ?_
      refine j_st (st := [.int 0, .ref (m + 4), .int 0, .int (nI (i))]) rfl ?_
      refine j_iald X h4 hI (vp_in_nI (n := 0) (by decide) (by decide)) (v := nI A.length) (hk0) dX5_event_66 ?_
      refine j_iadd X dX5_event_67 ?_
      refine j_st (st := [.int (nI A.length), .int (nI (i))]) (by rw [show (0 : Int32) + (nI A.length) = nI A.length from (nI_add 0 _).trans (congrArg nI (Nat.zero_add _))]) ?_
      refine j_icmp_ge X 156 dX5_event_68 (by decide) (fun c117 => ?_) (fun c117 => ?_)
      · skip
        exact absurd c117 (nI_ge (by omega) (by omega))
      · skip
        refine j_aload_n X 0 dX5_event_71 rfl rfl ?_
        refine j_iload X dX5_event_72 rfl ?_
        refine j_iload X dX5_event_74 rfl ?_
        refine j_callV X nwSQ_ok (As := [.int (nI (200 + B.length)), .int (nI (i))]) (rest := []) hmi2 rfl rfl (c_X5_areNear l D hI b0 hmi2 ⟨h1, h2, h3, h4, h5, h6⟩ (a := 200 + B.length) (b := i) (by omega) (by omega)) rfl gX5_event_X5_areNear ⟨rfl, ddX5_areNear⟩ ⟨Nat.le_of_ble_eq_true rfl, Nat.le_of_ble_eq_true rfl⟩ (Nat.le_of_ble_eq_true rfl) rfl dX5_event_76 ⟨(by show 0 + 0 ≤ 0; omega), (by show 0 + 0 ≤ 0; omega)⟩ (fun r118 M119 n120 hr121 => ?_)
        obtain ⟨rfl, rfl, rfl⟩ := hr121
        refine j_st (st := [.int (if nr t k sp ev then 1 else 0)]) (by rw [pk_us, pk_us, pk_un (show i ≠ 200 + B.length by omega), pk_un (show i ≠ 200 + B.length by omega), show fk (i) = ev.2.1 by rw [hevq], show ft (i) = ev.1 by rw [hevq], zo_iff hnear]; rfl) ?_
        refine j_if_eq X 150 dX5_event_79 (by decide) (fun c122 => ?_) (fun c122 => ?_)
        · skip
          refine j_iinc X dX5_event_150 rfl (v := nI (i + 1)) (nI_1 _) (by decide) rfl (L' := [some (.ref m), some (.int 1), some (.int t), some (.int k), some (.int v), some (.int 1), some (.int (nI (200 + B.length))), some (.int 0), some (.int (nI ((A.take i).countP (nr t k sp)))), some (.int (nI (i + 1))), none, none]) rfl ?_
          refine j_goto X 55 dX5_event_153 (by decide) ?_
          refine j_wk (L2 := [some (.ref m), some (.int 1), some (.int t), some (.int k), some (.int v), some (.int 1), some (.int (nI (200 + B.length))), some (.int 0), some (.int (nI ((A.take i).countP (nr t k sp)))), some (.int (nI (i + 1))), none, none]) ⟨rfl, rfl, rfl, rfl, rfl, rfl, rfl, rfl, rfl, rfl, trivial⟩ ?_
          have hi := ih (i + 1)
          have hnr : nr t k sp ev = false := by cases hb : nr t k sp ev <;> simp [hb] at c122 ⊢
          rw [if_neg (by rw [hnr]; decide), Nat.add_zero] at hcn
          rw [if_neg (by rw [hnr]; decide), List.append_nil] at hft
          rw [hcn, hft] at hi
          exact hi Mi qi (by omega) hmi hra hqi hfr
        · skip
          refine j_iinc X dX5_event_82 rfl (v := nI ((A.take i).countP (nr t k sp) + 1)) (nI_1 _) (by decide) rfl (L' := [some (.ref m), some (.int 1), some (.int t), some (.int k), some (.int v), some (.int 1), some (.int (nI (200 + B.length))), some (.int 0), some (.int (nI ((A.take i).countP (nr t k sp) + 1))), some (.int (nI (i))), none, none]) rfl ?_
          refine j_iload_n X 1 dX5_event_85 rfl rfl ?_
          refine j_if_ne X 94 dX5_event_86 (by decide) (fun c123 => ?_) (fun c123 => ?_)
          · skip
            refine j_iload X dX5_event_94 rfl ?_
            refine j_istore X dX5_event_96 (by decide) rfl (L' := [some (.ref m), some (.int 1), some (.int t), some (.int k), some (.int v), some (.int 1), some (.int (nI (200 + B.length))), some (.int 0), some (.int (nI ((A.take i).countP (nr t k sp) + 1))), some (.int (nI (i))), some (.int (nI (i))), none]) rfl ?_
            refine j_iload_n X 1 dX5_event_98 rfl rfl ?_
            refine j_if_ne X 107 dX5_event_99 (by decide) (fun c124 => ?_) (fun c124 => ?_)
            · skip
              refine j_iload X dX5_event_107 rfl ?_
              refine j_istore X dX5_event_109 (by decide) rfl (L' := [some (.ref m), some (.int 1), some (.int t), some (.int k), some (.int v), some (.int 1), some (.int (nI (200 + B.length))), some (.int 0), some (.int (nI ((A.take i).countP (nr t k sp) + 1))), some (.int (nI (i))), some (.int (nI (i))), some (.int (nI (200 + B.length)))]) rfl ?_
              refine j_iload X dX5_event_111 rfl ?_
              refine j_if_eq X 150 dX5_event_113 (by decide) (fun c125 => ?_) (fun c125 => ?_)
              · skip
                exact absurd c125 (by decide)
              · skip
                refine j_aload_n X 0 dX5_event_116 rfl rfl ?_
                refine j_iconst X dX5_event_117 (v := 2) (by decide) ?_
                refine j_aload_n X 0 dX5_event_118 rfl rfl ?_
                refine j_get X hmi2 rfl iwX5_event_X5 6 (by decide) lkX5_event_22 rfl dX5_event_119 ?_
                refine j_iload X dX5_event_122 rfl ?_
                refine j_iald X h1 hI (vp_in_nI (show i < 400 by omega) (by decide)) (v := ev.1) (by rw [nI_clamp (show i < 2 ^ 31 by omega), pk_un (by omega), hevq]) dX5_event_124 ?_
                refine j_aload_n X 0 dX5_event_125 rfl rfl ?_
                refine j_get X hmi2 rfl iwX5_event_X5 6 (by decide) lkX5_event_22 rfl dX5_event_126 ?_
                refine j_iload X dX5_event_129 rfl ?_
                refine j_iald X h1 hI (vp_in_nI (show 200 + B.length < 400 by omega) (by decide)) (v := t) (by rw [nI_clamp (show 200 + B.length < 2 ^ 31 by omega)]; exact pk_us) dX5_event_131 ?_
                refine j_iload_n X 3 dX5_event_132 rfl rfl ?_
                refine j_aload_n X 0 dX5_event_133 rfl rfl ?_
                refine j_get X hmi2 rfl iwX5_event_X5 8 (by decide) lkX5_event_29 rfl dX5_event_134 ?_
                refine j_iload X dX5_event_137 rfl ?_
                refine j_iald X h3 hI (vp_in_nI (show i < 400 by omega) (by decide)) (v := ev.2.2) (by rw [nI_clamp (show i < 2 ^ 31 by omega), pk_un (by omega), hevq]) dX5_event_139 ?_
                refine j_aload_n X 0 dX5_event_140 rfl rfl ?_
                refine j_get X hmi2 rfl iwX5_event_X5 8 (by decide) lkX5_event_29 rfl dX5_event_141 ?_
                refine j_iload X dX5_event_144 rfl ?_
                refine j_iald X h3 hI (vp_in_nI (show 200 + B.length < 400 by omega) (by decide)) (v := v) (by rw [nI_clamp (show 200 + B.length < 2 ^ 31 by omega)]; exact pk_us) dX5_event_146 ?_
                have hnr : nr t k sp ev = true := by cases hb : nr t k sp ev <;> simp [hb] at c122 ⊢
                rw [if_pos hnr] at hcn hft
                have hql : (qu ++ ((A.take i).filter (nr t k sp)).map (fun e : Ev => ((2, e.1, t, k, e.2.2, v) : Rec))).length < 400 := by rw [List.length_append, List.length_map, ← List.countP_eq_length_filter]; omega
                refine j_callV X nwSQ_ok (As := [.int 2, .int ev.1, .int t, .int k, .int ev.2.2, .int v]) (rest := []) hmi2 rfl rfl (c_X5_record l D hI b0 (qd := 0) hmi2 ⟨h1, h2, h3, h4, h5, h6⟩ hql 2 ev.1 t k ev.2.2 v) rfl gX5_event_X5_record ⟨rfl, ddX5_record⟩ ⟨Nat.le_of_ble_eq_true rfl, Nat.le_of_ble_eq_true rfl⟩ (Nat.le_of_ble_eq_true rfl) rfl dX5_event_147 ⟨(by show 0 + 0 ≤ 0; omega), (by show 0 + 0 ≤ 0; omega)⟩ (fun r126 M127 n128 hr129 => ?_)
                obtain ⟨rfl, rfl, hm3, hr3, hf3⟩ := hr129
                refine j_st (st := []) rfl ?_
                refine j_iinc X dX5_event_150 rfl (v := nI (i + 1)) (nI_1 _) (by decide) rfl (L' := [some (.ref m), some (.int 1), some (.int t), some (.int k), some (.int v), some (.int 1), some (.int (nI (200 + B.length))), some (.int 0), some (.int (nI ((A.take i).countP (nr t k sp) + 1))), some (.int (nI (i + 1))), some (.int (nI (i))), some (.int (nI (200 + B.length)))]) rfl ?_
                refine j_goto X 55 dX5_event_153 (by decide) ?_
                refine j_wk (L2 := [some (.ref m), some (.int 1), some (.int t), some (.int k), some (.int v), some (.int 1), some (.int (nI (200 + B.length))), some (.int 0), some (.int (nI ((A.take i).countP (nr t k sp) + 1))), some (.int (nI (i + 1))), none, none]) ⟨rfl, rfl, rfl, rfl, rfl, rfl, rfl, rfl, rfl, rfl, trivial⟩ ?_
                have hi := ih (i + 1)
                have hqn : qu ++ ((A.take (i + 1)).filter (nr t k sp)).map (fun e : Ev => ((2, e.1, t, k, e.2.2, v) : Rec)) = (qu ++ ((A.take i).filter (nr t k sp)).map (fun e : Ev => ((2, e.1, t, k, e.2.2, v) : Rec))) ++ [(2, ev.1, t, k, ev.2.2, v)] := by rw [hft, List.map_append, ← List.append_assoc]; rfl
                rw [hcn, hqn] at hi
                exact hi M127 _ (by omega) (by rw [List.length_append]; exact hm3) hr3 (q_push hqi _ _ _ _ _ _) (fun q hq => (hf3 q hq).trans (hfr q hq))
            · skip
              exact absurd c124 (by decide)
          · skip
            exact absurd c123 (by decide)
  refine j_sipush X dX5_event_0 (v := 200) (by decide) ?_
  refine j_iload_n X 1 dX5_event_3 rfl rfl ?_
  refine j_imul X dX5_event_4 ?_
  refine j_st (st := [.int 200]) rfl ?_
  refine j_aload_n X 0 dX5_event_5 rfl rfl ?_
  refine j_get X hm rfl iwX5_event_X5 9 (by decide) lkX5_event_32 rfl dX5_event_6 ?_
  refine j_iload_n X 1 dX5_event_9 rfl rfl ?_
  refine j_iald X h4 hI (vp_in_nI (n := 1) (by decide) (by decide)) (v := nI B.length) (hk1) dX5_event_10 ?_
  refine j_iadd X dX5_event_11 ?_
  refine j_st (st := [.int (nI (200 + B.length))]) (by rw [show 200 + (nI B.length) = nI (200 + B.length) from nI_add 200 _]) ?_
  refine j_istore X dX5_event_12 (by decide) rfl (L' := [some (.ref m), some (.int 1), some (.int t), some (.int k), some (.int v), some (.int 1), some (.int (nI (200 + B.length))), none, none, none, none, none]) rfl ?_
  refine j_sipush X dX5_event_14 (v := 200) (by decide) ?_
  refine j_iconst X dX5_event_17 (v := 1) (by decide) ?_
  refine j_iload_n X 1 dX5_event_18 rfl rfl ?_
  refine j_isub X dX5_event_19 ?_
  refine j_st (st := [.int 0, .int 200]) rfl ?_
  refine j_imul X dX5_event_20 ?_
  refine j_st (st := [.int 0]) rfl ?_
  refine j_istore X dX5_event_21 (by decide) rfl (L' := [some (.ref m), some (.int 1), some (.int t), some (.int k), some (.int v), some (.int 1), some (.int (nI (200 + B.length))), some (.int 0), none, none, none, none]) rfl ?_
  refine j_aload_n X 0 dX5_event_23 rfl rfl ?_
  refine j_get X hm rfl iwX5_event_X5 6 (by decide) lkX5_event_22 rfl dX5_event_24 ?_
  refine j_iload X dX5_event_27 rfl ?_
  refine j_iload_n X 2 dX5_event_29 rfl rfl ?_
  refine j_iast X h1 hI (vp_in_nI (show 200 + B.length < 400 by omega) (by decide)) dX5_event_30 ?_
  rw [nI_clamp (show 200 + B.length < 2 ^ 31 by omega)]
  generalize eM130 : j_up M (m + 1) (.inl (0, 400, .inl (upd ft (200 + B.length) t))) = M130
  have h131 : M130 m = some (.inr (5, [.int w, .int sl, .int la, .int sp, .int rm, .int ln, .ref (m + 1), .ref (m + 2), .ref (m + 3), .ref (m + 4), .ref (m + 5), .ref (m + 6), .int (nI qu.length), .int lt, .int pr, .int tl, .int tk, .int sm, .int my, .int gr, .int rc])) := by rw [← eM130, j_up_ne _ _ (by omega)]; exact hm
  have h133 : M130 (m + 2) = some (.inl (0, 400, .inl fk)) := by rw [← eM130, j_up_ne _ _ (by omega)]; exact h2
  have h134 : M130 (m + 3) = some (.inl (0, 400, .inl fv)) := by rw [← eM130, j_up_ne _ _ (by omega)]; exact h3
  have h135 : M130 (m + 4) = some (.inl (0, 2, .inl kp)) := by rw [← eM130, j_up_ne _ _ (by omega)]; exact h4
  have h136 : M130 (m + 5) = some (.inl (0, 2, .inl mk)) := by rw [← eM130, j_up_ne _ _ (by omega)]; exact h5
  have h137 : M130 (m + 6) = some (.inl (0, 2400, .inl qa)) := by rw [← eM130, j_up_ne _ _ (by omega)]; exact h6
  have h138 : M130 (m + 1) = some (.inl (0, 400, .inl (upd ft (200 + B.length) t))) := by rw [← eM130]; exact j_up_self _ _ _
  refine j_aload_n X 0 dX5_event_31 rfl rfl ?_
  refine j_get X h131 rfl iwX5_event_X5 7 (by decide) lkX5_event_26 rfl dX5_event_32 ?_
  refine j_iload X dX5_event_35 rfl ?_
  refine j_iload_n X 3 dX5_event_37 rfl rfl ?_
  refine j_iast X h133 hI (vp_in_nI (show 200 + B.length < 400 by omega) (by decide)) dX5_event_38 ?_
  rw [nI_clamp (show 200 + B.length < 2 ^ 31 by omega)]
  generalize eM139 : j_up M130 (m + 2) (.inl (0, 400, .inl (upd fk (200 + B.length) k))) = M139
  have h140 : M139 m = some (.inr (5, [.int w, .int sl, .int la, .int sp, .int rm, .int ln, .ref (m + 1), .ref (m + 2), .ref (m + 3), .ref (m + 4), .ref (m + 5), .ref (m + 6), .int (nI qu.length), .int lt, .int pr, .int tl, .int tk, .int sm, .int my, .int gr, .int rc])) := by rw [← eM139, j_up_ne _ _ (by omega)]; exact h131
  have h142 : M139 (m + 3) = some (.inl (0, 400, .inl fv)) := by rw [← eM139, j_up_ne _ _ (by omega)]; exact h134
  have h143 : M139 (m + 4) = some (.inl (0, 2, .inl kp)) := by rw [← eM139, j_up_ne _ _ (by omega)]; exact h135
  have h144 : M139 (m + 5) = some (.inl (0, 2, .inl mk)) := by rw [← eM139, j_up_ne _ _ (by omega)]; exact h136
  have h145 : M139 (m + 6) = some (.inl (0, 2400, .inl qa)) := by rw [← eM139, j_up_ne _ _ (by omega)]; exact h137
  have h146 : M139 (m + 1) = some (.inl (0, 400, .inl (upd ft (200 + B.length) t))) := by rw [← eM139, j_up_ne _ _ (by omega)]; exact h138
  have h147 : M139 (m + 2) = some (.inl (0, 400, .inl (upd fk (200 + B.length) k))) := by rw [← eM139]; exact j_up_self _ _ _
  refine j_aload_n X 0 dX5_event_39 rfl rfl ?_
  refine j_get X h140 rfl iwX5_event_X5 8 (by decide) lkX5_event_29 rfl dX5_event_40 ?_
  refine j_iload X dX5_event_43 rfl ?_
  refine j_iload X dX5_event_45 rfl ?_
  refine j_iast X h142 hI (vp_in_nI (show 200 + B.length < 400 by omega) (by decide)) dX5_event_47 ?_
  rw [nI_clamp (show 200 + B.length < 2 ^ 31 by omega)]
  generalize eM148 : j_up M139 (m + 3) (.inl (0, 400, .inl (upd fv (200 + B.length) v))) = M148
  have h149 : M148 m = some (.inr (5, [.int w, .int sl, .int la, .int sp, .int rm, .int ln, .ref (m + 1), .ref (m + 2), .ref (m + 3), .ref (m + 4), .ref (m + 5), .ref (m + 6), .int (nI qu.length), .int lt, .int pr, .int tl, .int tk, .int sm, .int my, .int gr, .int rc])) := by rw [← eM148, j_up_ne _ _ (by omega)]; exact h140
  have h151 : M148 (m + 4) = some (.inl (0, 2, .inl kp)) := by rw [← eM148, j_up_ne _ _ (by omega)]; exact h143
  have h152 : M148 (m + 5) = some (.inl (0, 2, .inl mk)) := by rw [← eM148, j_up_ne _ _ (by omega)]; exact h144
  have h153 : M148 (m + 6) = some (.inl (0, 2400, .inl qa)) := by rw [← eM148, j_up_ne _ _ (by omega)]; exact h145
  have h154 : M148 (m + 1) = some (.inl (0, 400, .inl (upd ft (200 + B.length) t))) := by rw [← eM148, j_up_ne _ _ (by omega)]; exact h146
  have h155 : M148 (m + 2) = some (.inl (0, 400, .inl (upd fk (200 + B.length) k))) := by rw [← eM148, j_up_ne _ _ (by omega)]; exact h147
  have h156 : M148 (m + 3) = some (.inl (0, 400, .inl (upd fv (200 + B.length) v))) := by rw [← eM148]; exact j_up_self _ _ _
  refine j_iconst X dX5_event_48 (v := 0) (by decide) ?_
  refine j_istore X dX5_event_49 (by decide) rfl (L' := [some (.ref m), some (.int 1), some (.int t), some (.int k), some (.int v), some (.int 1), some (.int (nI (200 + B.length))), some (.int 0), some (.int 0), none, none, none]) rfl ?_
  refine j_iload X dX5_event_51 rfl ?_
  refine j_istore X dX5_event_53 (by decide) rfl (L' := [some (.ref m), some (.int 1), some (.int t), some (.int k), some (.int v), some (.int 1), some (.int (nI (200 + B.length))), some (.int 0), some (.int 0), some (.int 0), none, none]) rfl ?_
  refine j_wk (L2 := [some (.ref m), some (.int 1), some (.int t), some (.int k), some (.int v), some (.int 1), some (.int (nI (200 + B.length))), some (.int 0), some (.int 0), some (.int 0), none, none]) ⟨rfl, rfl, rfl, rfl, rfl, rfl, rfl, rfl, rfl, rfl, trivial⟩ ?_
  exact loop A.length 0 M148 qa (by omega) (by rw [List.take_zero, List.filter_nil, List.map_nil, List.append_nil]; exact h149) ⟨h154, h155, h156, h151, h152, h153⟩ (by rw [List.take_zero, List.filter_nil, List.map_nil, List.append_nil]; exact hQ) (fun q hq => by rw [← eM148, j_up_ne _ _ (by omega), ← eM139, j_up_ne _ _ (by omega), ← eM130, j_up_ne _ _ (by omega)])
