set_option maxHeartbeats 800000 in
set_option maxRecDepth 100000 in
theorem c_X5_go0 (l : Launch) (D : va_G) {ty : jT} {cA : ClassId} (hI : ty[0]? = some (cA, .int)) (b0 : Nat) {M : jM} {n m : Nat} {w sl la sp rm ln lt pr tl tk sm my gr rc : Int32} {ft fk fv kp mk qa : Nat → Int32} {A : List Ev} {qu : List Rec} {Gs T U : List Grp} {o1 n1 : Int} (hm : M m = some (rfO m w sl la sp rm ln (nI qu.length) lt pr tl tk sm my gr rc)) (hr0 : RA M m ft fk fv kp mk qa) (hk0 : kp 0 = nI A.length) (ha : A.length ≤ 200) (hN : okN w sl) (h16 : w.toInt ≤ 16 * sl.toInt) (hla : 0 ≤ la.toInt ∧ la.toInt ≤ 1000000) (hTt : okts ft A.length) (hA : ∀ i, i < A.length → A[i]? = some (ft i, fk i, fv i)) (hQ : ∀ i, i < qu.length → qu[i]? = some (rowAt qa (6 * i))) (ho : -4000000000 ≤ o1 ∧ o1 ≤ 4000000000) (hn1 : -4000000000 ≤ n1 ∧ n1 ≤ 4000000000) (hGL : GL w.toInt sl.toInt (o1 - la.toInt) A Gs) (hGs : Gs = T ++ U) (hT : ∀ g ∈ T, g.1.toInt ≤ n1 - la.toInt) (hU : ∀ g ∈ U, n1 - la.toInt < g.1.toInt) : Ct l D ty vwCl nwSQ b0 yX5_goOver wsX5_goOver 2 52 0 0 [.ref m, .long (lI o1), .long (lI n1), .int 0] M n (fun r M' n' => r = some (.int (nI (wc (-2147483648) T))) ∧ n = n' ∧ ∃ (s1 s2 s3 : Int32) (qb : Nat → Int32), M' m = some (rfO m w sl la sp rm ln (nI (qu).length) lt pr tl tk s1 s2 s3 (nI (T).length)) ∧ RA M' m ft fk fv kp mk qb ∧ qb = qa ∧ ∀ q, (q < m ∨ m + 6 < q) → M' q = M q) := by
  have hm : M m = some (.inr (5, [.int w, .int sl, .int la, .int sp, .int rm, .int ln, .ref (m + 1), .ref (m + 2), .ref (m + 3), .ref (m + 4), .ref (m + 5), .ref (m + 6), .int (nI qu.length), .int lt, .int pr, .int tl, .int tk, .int sm, .int my, .int gr, .int rc])) := hm
  obtain ⟨h1, h2, h3, h4, h5, h6⟩ := id hr0
  have hbn : bigI n1 := ⟨by omega, by omega⟩
  have hbo : bigI o1 := ⟨by omega, by omega⟩
  refine j_start (cc := cX5_goOver) (maxL := 11) (ret := (some .int)) (by decide) rfl [some (.ref m), some (.long (lI o1)), none, some (.long (lI n1)), none, some (.int 0), none, none, none, none, none] (Nat.le_of_ble_eq_true rfl) rfl ?_
  intro p e s m0 below meth c X hlk hr hnm
  have outer : ∀ (f : Nat) (b : Int) (dn td : List Grp) (Mi : jM) (qi : Nat → Int32) (s1 s2 s3 : Int32), (4000000000 - b).toNat < f → -4000000000 ≤ b → b < 4000000000 → T = dn ++ td → (∀ g ∈ td, b < g.1.toInt) → (∀ g ∈ dn, g.1.toInt ≤ b) → Mi m = some (rfO m w sl la sp rm ln (nI (qu).length) lt pr tl tk s1 s2 s3 (nI (dn).length)) → RA Mi m ft fk fv kp mk qi → qi = qa → (∀ q, (q < m ∨ m + 6 < q) → Mi q = M q) → J p l e { frames := 2, cells := 0, slots := 0, locals := 52 } s m0 ([.ref m, .long (lI o1), .long (lI n1), .int 0] : List Value).toArray below meth c D ty vwCl b0 (MQ below (j_Q D ty vwCl b0 (fun r M' n' => r = some (.int (nI (wc (-2147483648) T))) ∧ n = n' ∧ ∃ (s1 s2 s3 : Int32) (qb : Nat → Int32), M' m = some (rfO m w sl la sp rm ln (nI (qu).length) lt pr tl tk s1 s2 s3 (nI (T).length)) ∧ RA M' m ft fk fv kp mk qb ∧ qb = qa ∧ ∀ q, (q < m ∨ m + 6 < q) → M' q = M q)) ([.ref m, .long (lI o1), .long (lI n1), .int 0] : List Value).toArray s 0 0 (fun q => b0 ≤ q)) 11 Mi n 0 0 17 [some (.ref m), some (.long (lI o1)), none, some (.long (lI n1)), none, some (.int 0), some (.int (nI (wc (-2147483648) dn))), some (.long (lI (nE w.toInt sl.toInt ft b A.length))), none, none, none] [] := by
    intro f
    induction f with
    | zero => intro b dn td Mi qi s1 s2 s3 hf; exact absurd hf (Nat.not_lt_zero _)
    | succ f ih =>
      intro b dn td Mi qi s1 s2 s3 hf hb1 hb2 hsp htb hdb hmi hra hqi hfr
      have hG2 : Gs = dn ++ (td ++ U) := by rw [hGs, hsp, List.append_assoc]
      have hTd : ∀ g ∈ td, g.1.toInt ≤ n1 - la.toInt := fun g hg => hT g (by rw [hsp]; exact List.mem_append_right _ hg)
      obtain ⟨hx1, hx2, hx3⟩ := step_end hN.1.1 hN.2.1 h16 hGL hG2 hTd htb hA
      have hzr := nE_rng (b := b) hN.1 hN.2 hTt
      generalize hz : nE w.toInt sl.toInt ft b A.length = z at hx1 hx2 hx3 hzr ⊢
      have hbz : bigI z := ⟨by omega, by omega⟩
      have hbzl : bigI (z + la.toInt) := ⟨by omega, by omega⟩
      have hb4 : bigI 4000000000 := ⟨by omega, by omega⟩
      obtain ⟨h1, h2, h3, h4, h5, h6⟩ := id hra
      have hmi2 : Mi m = some (.inr (5, [.int w, .int sl, .int la, .int sp, .int rm, .int ln, .ref (m + 1), .ref (m + 2), .ref (m + 3), .ref (m + 4), .ref (m + 5), .ref (m + 6), .int (nI (qu).length), .int lt, .int pr, .int tl, .int tk, .int s1, .int s2, .int s3, .int (nI (dn).length)])) := hmi
      refine j_lload X dX5_goOver_17 rfl ?_
      refine j_ldc2 X dX5_goOver_19 wdX5_goOver_c99 ?_
      refine j_st (st := [.long (lI 4000000000), .long (lI z)]) (by rw [l_c4]) ?_
      refine j_lc_ge X 140 dX5_goOver_22 dX5_goOver_23 (by decide) (fun c1 => ?_) (fun c1 => ?_)
      · skip
        refine j_iload X dX5_goOver_140 rfl ?_
        exact j_iret X hlk hr (by omega) (by omega) dX5_goOver_142 (by have htd := hx1 (Or.inl ((lI_le hb4 hbz).mp c1)); subst htd; rw [List.append_nil] at hsp; subst hsp; exact ⟨rfl, rfl, s1, s2, s3, qi, hmi, hra, hqi, hfr⟩)
      · skip
        refine j_aload_n X 0 dX5_goOver_26 rfl rfl ?_
        refine j_lload X dX5_goOver_27 rfl ?_
        refine j_lload_n X 3 dX5_goOver_29 rfl rfl ?_
        refine j_callV X nwSQ_ok (As := [.long (lI z), .long (lI n1)]) (rest := []) hmi2 rfl rfl (c_X5_isOver l D hI b0 hmi2 ⟨h1, h2, h3, h4, h5, h6⟩ z n1 hbzl hbn) rfl gX5_goOver_X5_isOver ⟨rfl, ddX5_isOver⟩ ⟨Nat.le_of_ble_eq_true rfl, Nat.le_of_ble_eq_true rfl⟩ (Nat.le_of_ble_eq_true rfl) rfl dX5_goOver_30 ⟨(by show 0 + 0 ≤ 0; omega), (by show 0 + 0 ≤ 0; omega)⟩ (fun r2 M3 n4 hr5 => ?_)
        obtain ⟨rfl, rfl, rfl⟩ := hr5
        refine j_st (st := [.int (if z + la.toInt ≤ n1 then 1 else 0)]) rfl ?_
        refine j_if_eq X 140 dX5_goOver_33 (by decide) (fun c6 => ?_) (fun c6 => ?_)
        · skip
          refine j_iload X dX5_goOver_140 rfl ?_
          exact j_iret X hlk hr (by omega) (by omega) dX5_goOver_142 (by have htd := hx1 (Or.inr (by have := zo_eq.mp c6; omega)); subst htd; rw [List.append_nil] at hsp; subst hsp; exact ⟨rfl, rfl, s1, s2, s3, qi, hmi, hra, hqi, hfr⟩)
        · skip
          refine j_aload_n X 0 dX5_goOver_36 rfl rfl ?_
          refine j_lload X dX5_goOver_37 rfl ?_
          refine j_lload_n X 1 dX5_goOver_39 rfl rfl ?_
          refine j_callV X nwSQ_ok (As := [.long (lI z), .long (lI o1)]) (rest := []) hmi2 rfl rfl (c_X5_isOver l D hI b0 hmi2 ⟨h1, h2, h3, h4, h5, h6⟩ z o1 hbzl hbo) rfl gX5_goOver_X5_isOver ⟨rfl, ddX5_isOver⟩ ⟨Nat.le_of_ble_eq_true rfl, Nat.le_of_ble_eq_true rfl⟩ (Nat.le_of_ble_eq_true rfl) rfl dX5_goOver_40 ⟨(by show 0 + 0 ≤ 0; omega), (by show 0 + 0 ≤ 0; omega)⟩ (fun r7 M8 n9 hr10 => ?_)
          obtain ⟨rfl, rfl, rfl⟩ := hr10
          refine j_st (st := [.int (if z + la.toInt ≤ o1 then 1 else 0)]) rfl ?_
          refine j_if_ne X 129 dX5_goOver_43 (by decide) (fun c11 => ?_) (fun c11 => ?_)
          · skip
            refine j_aload_n X 0 dX5_goOver_129 rfl rfl ?_
            refine j_lload X dX5_goOver_130 rfl ?_
            refine j_callV X nwSQ_ok (As := [.long (lI z)]) (rest := []) hmi2 rfl rfl (c_X5_nextEnd l D hI b0 hmi2 ⟨h1, h2, h3, h4, h5, h6⟩ hk0 ha hN hTt z ⟨by omega, by omega⟩) rfl gX5_goOver_X5_nextEnd ⟨rfl, ddX5_nextEnd⟩ ⟨Nat.le_of_ble_eq_true rfl, Nat.le_of_ble_eq_true rfl⟩ (Nat.le_of_ble_eq_true rfl) rfl dX5_goOver_132 ⟨(by show 0 + 0 ≤ 0; omega), (by show 0 + 0 ≤ 0; omega)⟩ (fun r12 M13 n14 hr15 => ?_)
            obtain ⟨rfl, rfl, rfl⟩ := hr15
            refine j_st (st := [.long (lI (nE w.toInt sl.toInt ft z A.length))]) rfl ?_
            refine j_lstore X dX5_goOver_135 (by decide) rfl (L' := [some (.ref m), some (.long (lI o1)), none, some (.long (lI n1)), none, some (.int 0), some (.int (nI (wc (-2147483648) dn))), some (.long (lI (nE w.toInt sl.toInt ft z A.length))), none, none, none]) rfl ?_
            refine j_goto X 17 dX5_goOver_137 (by decide) ?_
            refine j_wk (L2 := [some (.ref m), some (.long (lI o1)), none, some (.long (lI n1)), none, some (.int 0), some (.int (nI (wc (-2147483648) dn))), some (.long (lI (nE w.toInt sl.toInt ft z A.length))), none, none, none]) ⟨rfl, rfl, rfl, rfl, rfl, rfl, trivial⟩ ?_
            have hz4 : z < 4000000000 := Int.not_le.mp (fun q => c1 ((lI_le hb4 hbz).mpr q))
            have hzo : z + la.toInt ≤ o1 := zo_ne.mp c11
            obtain ⟨hbz2, _⟩ := hx3 hz4
            exact ih z dn td Mi qi s1 s2 s3 (toNat_dec hf hbz2 hz4) (Int.le_trans hb1 (Int.le_of_lt hbz2)) hz4 hsp (fun g hg => by have h9 := (hGL.2.1 g (by rw [hG2]; exact List.mem_append_right _ (List.mem_append_left _ hg))).2.1; omega) (fun g hg => by have := hdb g hg; omega) hmi hra hqi hfr
          · skip
            refine j_iinc X dX5_goOver_46 rfl (v := nI (wc (-2147483648) dn + 1)) (nI_1 _) (by decide) rfl (L' := [some (.ref m), some (.long (lI o1)), none, some (.long (lI n1)), none, some (.int 0), some (.int (nI (wc (-2147483648) dn + 1))), some (.long (lI z)), none, none, none]) rfl ?_
            refine j_aload_n X 0 dX5_goOver_49 rfl rfl ?_
            refine j_lload X dX5_goOver_50 rfl ?_
            refine j_ldc2 X dX5_goOver_52 wdX5_goOver_c121 ?_
            refine j_st (st := [.long (lI (-4000000000)), .long (lI z), .ref m]) (by rw [l_c4n]) ?_
            refine j_callV X nwSQ_ok (As := [.long (lI z), .long (lI (-4000000000))]) (rest := []) hmi2 rfl rfl (c_X5_nextKey l D hI b0 hmi2 ⟨h1, h2, h3, h4, h5, h6⟩ hk0 ha hN hTt z (-4000000000) ⟨by omega, by omega⟩ ⟨by omega, by omega⟩) rfl gX5_goOver_X5_nextKey ⟨rfl, ddX5_nextKey⟩ ⟨Nat.le_of_ble_eq_true rfl, Nat.le_of_ble_eq_true rfl⟩ (Nat.le_of_ble_eq_true rfl) rfl dX5_goOver_55 ⟨(by show 0 + 0 ≤ 0; omega), (by show 0 + 0 ≤ 0; omega)⟩ (fun r16 M17 n18 hr19 => ?_)
            obtain ⟨rfl, rfl, rfl⟩ := hr19
            refine j_st (st := [.long (lI (nK w.toInt ft fk z (-4000000000) A.length))]) rfl ?_
            refine j_lstore X dX5_goOver_58 (by decide) rfl (L' := [some (.ref m), some (.long (lI o1)), none, some (.long (lI n1)), none, some (.int 0), some (.int (nI (wc (-2147483648) dn + 1))), some (.long (lI z)), none, some (.long (lI (nK w.toInt ft fk z (-4000000000) A.length))), none]) rfl ?_
            have hz4 : z < 4000000000 := Int.not_le.mp (fun q => c1 ((lI_le hb4 hbz).mpr q))
            have hzn : z + la.toInt ≤ n1 := zo_ne.mp c6
            have hzo : ¬ z + la.toInt ≤ o1 := zo_eq.mp c11
            obtain ⟨hbz2, hzW, i0, hi0, hin0⟩ := hx3 hz4
            have hk1 : nK w.toInt ft fk z (-4000000000) A.length < 4000000000 := by have h9 := (nK_spec (w := w.toInt) (e := z) (b := -4000000000) (ft := ft) (fk := fk) (a := A.length)).2.2 i0 hi0 hin0 (by have := i_rng (fk i0); omega); have := i_rng (fk i0); omega
            have hti0 := hTt i0 hi0
            have hzlo : -2147483648 < z := by have := hin0.1; omega
            have inner : ∀ (f2 : Nat) (kb : Int) (bl td2 : List Grp) (Mj : jM) (qj : Nat → Int32) (r1 r2 r3 : Int32), (4000000000 - kb).toNat < f2 → -4000000000 ≤ kb → kb < 4000000000 → T = (dn ++ bl) ++ td2 → (∀ g ∈ bl, g.1.toInt = z ∧ g.2.1.toInt ≤ kb) → (bl ≠ [] ∨ kb = -4000000000) → (∀ g ∈ td2, z ≤ g.1.toInt ∧ (g.1.toInt = z → kb < g.2.1.toInt)) → Mj m = some (rfO m w sl la sp rm ln (nI (qu).length) lt pr tl tk r1 r2 r3 (nI (dn ++ bl).length)) → RA Mj m ft fk fv kp mk qj → qj = qa → (∀ q, (q < m ∨ m + 6 < q) → Mj q = M q) → J p l e { frames := 2, cells := 0, slots := 0, locals := 52 } s m0 ([.ref m, .long (lI o1), .long (lI n1), .int 0] : List Value).toArray below meth c D ty vwCl b0 (MQ below (j_Q D ty vwCl b0 (fun r M' n' => r = some (.int (nI (wc (-2147483648) T))) ∧ n = n' ∧ ∃ (s1 s2 s3 : Int32) (qb : Nat → Int32), M' m = some (rfO m w sl la sp rm ln (nI (qu).length) lt pr tl tk s1 s2 s3 (nI (T).length)) ∧ RA M' m ft fk fv kp mk qb ∧ qb = qa ∧ ∀ q, (q < m ∨ m + 6 < q) → M' q = M q)) ([.ref m, .long (lI o1), .long (lI n1), .int 0] : List Value).toArray s 0 0 (fun q => b0 ≤ q)) 11 Mj n 0 0 60 [some (.ref m), some (.long (lI o1)), none, some (.long (lI n1)), none, some (.int 0), some (.int (nI (wc (-2147483648) dn + 1))), some (.long (lI z)), none, some (.long (lI (nK w.toInt ft fk z kb A.length))), none] [] := by
              intro f2
              induction f2 with
              | zero => intro kb bl td2 Mj qj r1 r2 r3 hf2; exact absurd hf2 (Nat.not_lt_zero _)
              | succ f2 ih2 =>
                intro kb bl td2 Mj qj r1 r2 r3 hf2 hkb1 hkb2 hsp2 hbl hne htk hmj hrj hqj hfj
                have hG3 : Gs = (dn ++ bl) ++ (td2 ++ U) := by rw [hGs, hsp2, List.append_assoc]
                have hdk : ∀ g ∈ dn ++ bl, g.1.toInt < z ∨ (g.1.toInt = z ∧ g.2.1.toInt ≤ kb) := fun g hg => (List.mem_append.mp hg).elim (fun h => Or.inl (by have := hdb g h; omega)) (fun h => Or.inr (hbl g h))
                obtain ⟨hy1, hy2⟩ := step_key hGL hG3 hU hzW (by omega) (by omega) htk hdk hA
                have hkr := nK_rng (w := w.toInt) (ft := ft) (fk := fk) (e := z) (b := kb) (i := A.length)
                have hk1b : kb = -4000000000 → nK w.toInt ft fk z kb A.length < 4000000000 := fun h => by rw [h]; exact hk1
                generalize hk : nK w.toInt ft fk z kb A.length = k1 at hy1 hy2 hkr hk1b ⊢
                have hbk : bigI k1 := ⟨by omega, by omega⟩
                obtain ⟨h1, h2, h3, h4, h5, h6⟩ := id hrj
                have hmj2 : Mj m = some (.inr (5, [.int w, .int sl, .int la, .int sp, .int rm, .int ln, .ref (m + 1), .ref (m + 2), .ref (m + 3), .ref (m + 4), .ref (m + 5), .ref (m + 6), .int (nI (qu).length), .int lt, .int pr, .int tl, .int tk, .int r1, .int r2, .int r3, .int (nI (dn ++ bl).length)])) := hmj
                refine j_lload X dX5_goOver_60 rfl ?_
                refine j_ldc2 X dX5_goOver_62 wdX5_goOver_c99 ?_
                refine j_st (st := [.long (lI 4000000000), .long (lI k1)]) (by rw [l_c4]) ?_
                refine j_lc_ge X 129 dX5_goOver_65 dX5_goOver_66 (by decide) (fun c20 => ?_) (fun c20 => ?_)
                · skip
                  refine j_aload_n X 0 dX5_goOver_129 rfl rfl ?_
                  refine j_lload X dX5_goOver_130 rfl ?_
                  refine j_callV X nwSQ_ok (As := [.long (lI z)]) (rest := []) hmj2 rfl rfl (c_X5_nextEnd l D hI b0 hmj2 ⟨h1, h2, h3, h4, h5, h6⟩ hk0 ha hN hTt z ⟨by omega, by omega⟩) rfl gX5_goOver_X5_nextEnd ⟨rfl, ddX5_nextEnd⟩ ⟨Nat.le_of_ble_eq_true rfl, Nat.le_of_ble_eq_true rfl⟩ (Nat.le_of_ble_eq_true rfl) rfl dX5_goOver_132 ⟨(by show 0 + 0 ≤ 0; omega), (by show 0 + 0 ≤ 0; omega)⟩ (fun r21 M22 n23 hr24 => ?_)
                  obtain ⟨rfl, rfl, rfl⟩ := hr24
                  refine j_st (st := [.long (lI (nE w.toInt sl.toInt ft z A.length))]) rfl ?_
                  refine j_lstore X dX5_goOver_135 (by decide) rfl (L' := [some (.ref m), some (.long (lI o1)), none, some (.long (lI n1)), none, some (.int 0), some (.int (nI (wc (-2147483648) dn + 1))), some (.long (lI (nE w.toInt sl.toInt ft z A.length))), none, some (.long (lI k1)), none]) rfl ?_
                  refine j_goto X 17 dX5_goOver_137 (by decide) ?_
                  refine j_wk (L2 := [some (.ref m), some (.long (lI o1)), none, some (.long (lI n1)), none, some (.int 0), some (.int (nI (wc (-2147483648) dn + 1))), some (.long (lI (nE w.toInt sl.toInt ft z A.length))), none, none, none]) ⟨rfl, rfl, rfl, rfl, rfl, rfl, trivial⟩ ?_
                  have hy3 := hy1 ((lI_le hb4 hbk).mp c20)
                  have hne2 : bl ≠ [] := hne.elim id (fun h => absurd ((lI_le hb4 hbk).mp c20) (by have := hk1b h; omega))
                  have hi := ih z (dn ++ bl) td2 Mj qj r1 r2 r3 (toNat_dec hf hbz2 hz4) (Int.le_trans hb1 (Int.le_of_lt hbz2)) hz4 hsp2 hy3 (fun g hg => (List.mem_append.mp hg).elim (fun h => by have := hdb g h; omega) (fun h => by have := (hbl g h).1; omega)) hmj hrj hqj hfj
                  rw [wc_step hzlo (fun g hg => by have := hdb g hg; omega) (fun g hg => (hbl g hg).1) hne2] at hi
                  exact hi
                · skip
                  have hk4 : k1 < 4000000000 := Int.not_le.mp (fun q => c20 ((lI_le hb4 hbk).mpr q))
                  obtain ⟨hkk, g, rest, htd2, hgz, hgk, hrest⟩ := hy2 hk4
                  have hgz2 : Int32.ofInt z = g.1 := by rw [← hgz]; exact i_of
                  have hgk2 : Int32.ofInt k1 = g.2.1 := by rw [← hgk]; exact i_of
                  have hgag : g.2.2 = agg w.toInt z g.2.1 A := by have h9 := (hGL.2.1 g (by rw [hG3, htd2]; exact List.mem_append_right _ (List.mem_append_left _ List.mem_cons_self))).2.2.2; rw [hgz] at h9; exact h9
                  refine j_aload_n X 0 dX5_goOver_69 rfl rfl ?_
                  refine j_dup X dX5_goOver_70 rfl ?_
                  refine j_get X hmj2 rfl iwX5_goOver_X5 20 (by decide) lkX5_goOver_118 rfl dX5_goOver_71 ?_
                  refine j_iconst X dX5_goOver_74 (v := 1) (by decide) ?_
                  refine j_iadd X dX5_goOver_75 ?_
                  refine j_st (st := [.int (nI ((dn ++ bl).length + 1)), .ref m]) (by rw [show (nI (dn ++ bl).length) + 1 = nI ((dn ++ bl).length + 1) from nI_add _ 1]) ?_
                  refine j_put X hmj2 rfl iwX5_goOver_X5 tyX5 tyX5_ok nmX5 20 (by decide) lkX5_goOver_118 rfl rfl rfl (Nat.le_of_ble_eq_true rfl) (fs' := [.int w, .int sl, .int la, .int sp, .int rm, .int ln, .ref (m + 1), .ref (m + 2), .ref (m + 3), .ref (m + 4), .ref (m + 5), .ref (m + 6), .int (nI (qu).length), .int lt, .int pr, .int tl, .int tk, .int r1, .int r2, .int r3, .int (nI ((dn ++ bl).length + 1))]) rfl dX5_goOver_76 ?_
                  generalize eM25 : j_up Mj m (.inr (5, [.int w, .int sl, .int la, .int sp, .int rm, .int ln, .ref (m + 1), .ref (m + 2), .ref (m + 3), .ref (m + 4), .ref (m + 5), .ref (m + 6), .int (nI (qu).length), .int lt, .int pr, .int tl, .int tk, .int r1, .int r2, .int r3, .int (nI ((dn ++ bl).length + 1))])) = M25
                  have h27 : M25 (m + 1) = some (.inl (0, 400, .inl ft)) := by rw [← eM25, j_up_ne _ _ (by omega)]; exact h1
                  have h28 : M25 (m + 2) = some (.inl (0, 400, .inl fk)) := by rw [← eM25, j_up_ne _ _ (by omega)]; exact h2
                  have h29 : M25 (m + 3) = some (.inl (0, 400, .inl fv)) := by rw [← eM25, j_up_ne _ _ (by omega)]; exact h3
                  have h30 : M25 (m + 4) = some (.inl (0, 2, .inl kp)) := by rw [← eM25, j_up_ne _ _ (by omega)]; exact h4
                  have h31 : M25 (m + 5) = some (.inl (0, 2, .inl mk)) := by rw [← eM25, j_up_ne _ _ (by omega)]; exact h5
                  have h32 : M25 (m + 6) = some (.inl (0, 2400, .inl qj)) := by rw [← eM25, j_up_ne _ _ (by omega)]; exact h6
                  have h33 : M25 m = some (.inr (5, [.int w, .int sl, .int la, .int sp, .int rm, .int ln, .ref (m + 1), .ref (m + 2), .ref (m + 3), .ref (m + 4), .ref (m + 5), .ref (m + 6), .int (nI (qu).length), .int lt, .int pr, .int tl, .int tk, .int r1, .int r2, .int r3, .int (nI ((dn ++ bl).length + 1))])) := by rw [← eM25]; exact j_up_self _ _ _
                  refine j_iload X dX5_goOver_79 rfl ?_
                  refine j_if_eq X 116 dX5_goOver_81 (by decide) (fun c34 => ?_) (fun c34 => ?_)
                  · skip
                    refine j_aload_n X 0 dX5_goOver_116 rfl rfl ?_
                    refine j_lload X dX5_goOver_117 rfl ?_
                    refine j_lload X dX5_goOver_119 rfl ?_
                    refine j_callV X nwSQ_ok (As := [.long (lI z), .long (lI k1)]) (rest := []) h33 rfl rfl (c_X5_nextKey l D hI b0 h33 ⟨h27, h28, h29, h30, h31, h32⟩ hk0 ha hN hTt z k1 ⟨by omega, by omega⟩ ⟨by omega, by omega⟩) rfl gX5_goOver_X5_nextKey ⟨rfl, ddX5_nextKey⟩ ⟨Nat.le_of_ble_eq_true rfl, Nat.le_of_ble_eq_true rfl⟩ (Nat.le_of_ble_eq_true rfl) rfl dX5_goOver_121 ⟨(by show 0 + 0 ≤ 0; omega), (by show 0 + 0 ≤ 0; omega)⟩ (fun r35 M36 n37 hr38 => ?_)
                    obtain ⟨rfl, rfl, rfl⟩ := hr38
                    refine j_st (st := [.long (lI (nK w.toInt ft fk z k1 A.length))]) rfl ?_
                    refine j_lstore X dX5_goOver_124 (by decide) rfl (L' := [some (.ref m), some (.long (lI o1)), none, some (.long (lI n1)), none, some (.int 0), some (.int (nI (wc (-2147483648) dn + 1))), some (.long (lI z)), none, some (.long (lI (nK w.toInt ft fk z k1 A.length))), none]) rfl ?_
                    refine j_goto X 60 dX5_goOver_126 (by decide) ?_
                    refine j_wk (L2 := [some (.ref m), some (.long (lI o1)), none, some (.long (lI n1)), none, some (.int 0), some (.int (nI (wc (-2147483648) dn + 1))), some (.long (lI z)), none, some (.long (lI (nK w.toInt ft fk z k1 A.length))), none]) ⟨rfl, rfl, rfl, rfl, rfl, rfl, rfl, trivial⟩ ?_
                    have happ : dn ++ (bl ++ [g]) = (dn ++ bl) ++ [g] := (List.append_assoc _ _ _).symm
                    exact ih2 k1 (bl ++ [g]) rest M25 _ r1 r2 r3 (toNat_dec hf2 hkk hk4) (Int.le_trans hkb1 (Int.le_of_lt hkk)) hk4 (by rw [hsp2, htd2, happ, List.append_assoc (dn ++ bl)]; rfl) (fun h hh => (List.mem_append.mp hh).elim (fun h9 => ⟨(hbl h h9).1, by have := (hbl h h9).2; omega⟩) (fun h9 => by rw [List.mem_singleton.mp h9]; exact ⟨hgz, by omega⟩)) (Or.inl (by simp)) hrest (by rw [happ, List.length_append (as := dn ++ bl)]; exact h33) ⟨h27, h28, h29, h30, h31, h32⟩ hqj (fun q hq => by rw [← eM25, j_up_ne _ _ (by omega)]; exact hfj q hq)
                  · skip
                    exact absurd c34 (by decide)
            refine j_wk (L2 := [some (.ref m), some (.long (lI o1)), none, some (.long (lI n1)), none, some (.int 0), some (.int (nI (wc (-2147483648) dn + 1))), some (.long (lI z)), none, some (.long (lI (nK w.toInt ft fk z (-4000000000) A.length))), none]) ⟨rfl, rfl, rfl, rfl, rfl, rfl, rfl, trivial⟩ ?_
            have hi := inner 8000000001 (-4000000000) [] td Mi qi s1 s2 s3 (by decide) (by omega) (by omega) (by rw [List.append_nil]; exact hsp) (fun g hg => by cases hg) (Or.inr rfl) (fun g hg => ⟨hx2 g hg, fun _ => by have := i_rng g.2.1; omega⟩) (by rw [List.append_nil]; exact hmi) hra (by first | (rw [List.append_nil]; exact hqi) | exact hqi) hfr
            exact hi
  refine j_iconst X dX5_goOver_0 (v := 0) (by decide) ?_
  refine j_istore X dX5_goOver_1 (by decide) rfl (L' := [some (.ref m), some (.long (lI o1)), none, some (.long (lI n1)), none, some (.int 0), some (.int 0), none, none, none, none]) rfl ?_
  refine j_aload_n X 0 dX5_goOver_3 rfl rfl ?_
  refine j_iconst X dX5_goOver_4 (v := 0) (by decide) ?_
  refine j_put X hm rfl iwX5_goOver_X5 tyX5 tyX5_ok nmX5 20 (by decide) lkX5_goOver_118 rfl rfl rfl (Nat.le_of_ble_eq_true rfl) (fs' := [.int w, .int sl, .int la, .int sp, .int rm, .int ln, .ref (m + 1), .ref (m + 2), .ref (m + 3), .ref (m + 4), .ref (m + 5), .ref (m + 6), .int (nI qu.length), .int lt, .int pr, .int tl, .int tk, .int sm, .int my, .int gr, .int 0]) rfl dX5_goOver_5 ?_
  generalize eM39 : j_up M m (.inr (5, [.int w, .int sl, .int la, .int sp, .int rm, .int ln, .ref (m + 1), .ref (m + 2), .ref (m + 3), .ref (m + 4), .ref (m + 5), .ref (m + 6), .int (nI qu.length), .int lt, .int pr, .int tl, .int tk, .int sm, .int my, .int gr, .int 0])) = M39
  have h41 : M39 (m + 1) = some (.inl (0, 400, .inl ft)) := by rw [← eM39, j_up_ne _ _ (by omega)]; exact h1
  have h42 : M39 (m + 2) = some (.inl (0, 400, .inl fk)) := by rw [← eM39, j_up_ne _ _ (by omega)]; exact h2
  have h43 : M39 (m + 3) = some (.inl (0, 400, .inl fv)) := by rw [← eM39, j_up_ne _ _ (by omega)]; exact h3
  have h44 : M39 (m + 4) = some (.inl (0, 2, .inl kp)) := by rw [← eM39, j_up_ne _ _ (by omega)]; exact h4
  have h45 : M39 (m + 5) = some (.inl (0, 2, .inl mk)) := by rw [← eM39, j_up_ne _ _ (by omega)]; exact h5
  have h46 : M39 (m + 6) = some (.inl (0, 2400, .inl qa)) := by rw [← eM39, j_up_ne _ _ (by omega)]; exact h6
  have h47 : M39 m = some (.inr (5, [.int w, .int sl, .int la, .int sp, .int rm, .int ln, .ref (m + 1), .ref (m + 2), .ref (m + 3), .ref (m + 4), .ref (m + 5), .ref (m + 6), .int (nI qu.length), .int lt, .int pr, .int tl, .int tk, .int sm, .int my, .int gr, .int 0])) := by rw [← eM39]; exact j_up_self _ _ _
  refine j_aload_n X 0 dX5_goOver_8 rfl rfl ?_
  refine j_ldc2 X dX5_goOver_9 wdX5_goOver_c121 ?_
  refine j_st (st := [.long (lI (-4000000000)), .ref m]) (by rw [l_c4n]) ?_
  refine j_callV X nwSQ_ok (As := [.long (lI (-4000000000))]) (rest := []) h47 rfl rfl (c_X5_nextEnd l D hI b0 h47 ⟨h41, h42, h43, h44, h45, h46⟩ hk0 ha hN hTt (-4000000000) ⟨by omega, by omega⟩) rfl gX5_goOver_X5_nextEnd ⟨rfl, ddX5_nextEnd⟩ ⟨Nat.le_of_ble_eq_true rfl, Nat.le_of_ble_eq_true rfl⟩ (Nat.le_of_ble_eq_true rfl) rfl dX5_goOver_12 ⟨(by show 0 + 0 ≤ 0; omega), (by show 0 + 0 ≤ 0; omega)⟩ (fun r48 M49 n50 hr51 => ?_)
  obtain ⟨rfl, rfl, rfl⟩ := hr51
  refine j_st (st := [.long (lI (nE w.toInt sl.toInt ft (-4000000000) A.length))]) rfl ?_
  refine j_lstore X dX5_goOver_15 (by decide) rfl (L' := [some (.ref m), some (.long (lI o1)), none, some (.long (lI n1)), none, some (.int 0), some (.int 0), some (.long (lI (nE w.toInt sl.toInt ft (-4000000000) A.length))), none, none, none]) rfl ?_
  refine j_wk (L2 := [some (.ref m), some (.long (lI o1)), none, some (.long (lI n1)), none, some (.int 0), some (.int 0), some (.long (lI (nE w.toInt sl.toInt ft (-4000000000) A.length))), none, none, none]) ⟨rfl, rfl, rfl, rfl, rfl, rfl, trivial⟩ ?_
  exact outer 8000000001 (-4000000000) [] T M39 qa sm my gr (by decide) (by omega) (by omega) rfl (fun g hg => by have := i_rng g.1; omega) (fun g hg => by cases hg) h47 ⟨h41, h42, h43, h44, h45, h46⟩ rfl (fun q hq => by rw [← eM39, j_up_ne _ _ (by omega)])
set_option maxHeartbeats 800000 in
set_option maxRecDepth 100000 in
theorem c_X5_go1 (l : Launch) (D : va_G) {ty : jT} {cA : ClassId} (hI : ty[0]? = some (cA, .int)) (b0 : Nat) {M : jM} {n m : Nat} {w sl la sp rm ln lt pr tl tk sm my gr rc : Int32} {ft fk fv kp mk qa : Nat → Int32} {A : List Ev} {qu : List Rec} {Gs T U : List Grp} {o1 n1 : Int} (hm : M m = some (rfO m w sl la sp rm ln (nI qu.length) lt pr tl tk sm my gr rc)) (hr0 : RA M m ft fk fv kp mk qa) (hk0 : kp 0 = nI A.length) (ha : A.length ≤ 200) (hN : okN w sl) (h16 : w.toInt ≤ 16 * sl.toInt) (hla : 0 ≤ la.toInt ∧ la.toInt ≤ 1000000) (hTt : okts ft A.length) (hA : ∀ i, i < A.length → A[i]? = some (ft i, fk i, fv i)) (hQ : ∀ i, i < qu.length → qu[i]? = some (rowAt qa (6 * i))) (ho : -4000000000 ≤ o1 ∧ o1 ≤ 4000000000) (hn1 : -4000000000 ≤ n1 ∧ n1 ≤ 4000000000) (hGL : GL w.toInt sl.toInt (o1 - la.toInt) A Gs) (hGs : Gs = T ++ U) (hT : ∀ g ∈ T, g.1.toInt ≤ n1 - la.toInt) (hU : ∀ g ∈ U, n1 - la.toInt < g.1.toInt) (hq4 : qu.length + T.length ≤ 400) : Ct l D ty vwCl nwSQ b0 yX5_goOver wsX5_goOver 2 52 0 0 [.ref m, .long (lI o1), .long (lI n1), .int 1] M n (fun r M' n' => r = some (.int (nI (wc (-2147483648) T))) ∧ n = n' ∧ ∃ (s1 s2 s3 : Int32) (qb : Nat → Int32), M' m = some (rfO m w sl la sp rm ln (nI (qu ++ (T).map (fun g : Grp => ((1, g) : Rec))).length) lt pr tl tk s1 s2 s3 (nI (T).length)) ∧ RA M' m ft fk fv kp mk qb ∧ (∀ j, j < (qu ++ (T).map (fun g : Grp => ((1, g) : Rec))).length → (qu ++ (T).map (fun g : Grp => ((1, g) : Rec)))[j]? = some (rowAt qb (6 * j))) ∧ ∀ q, (q < m ∨ m + 6 < q) → M' q = M q) := by
  have hm : M m = some (.inr (5, [.int w, .int sl, .int la, .int sp, .int rm, .int ln, .ref (m + 1), .ref (m + 2), .ref (m + 3), .ref (m + 4), .ref (m + 5), .ref (m + 6), .int (nI qu.length), .int lt, .int pr, .int tl, .int tk, .int sm, .int my, .int gr, .int rc])) := hm
  obtain ⟨h1, h2, h3, h4, h5, h6⟩ := id hr0
  have hbn : bigI n1 := ⟨by omega, by omega⟩
  have hbo : bigI o1 := ⟨by omega, by omega⟩
  refine j_start (cc := cX5_goOver) (maxL := 11) (ret := (some .int)) (by decide) rfl [some (.ref m), some (.long (lI o1)), none, some (.long (lI n1)), none, some (.int 1), none, none, none, none, none] (Nat.le_of_ble_eq_true rfl) rfl ?_
  intro p e s m0 below meth c X hlk hr hnm
  have outer : ∀ (f : Nat) (b : Int) (dn td : List Grp) (Mi : jM) (qi : Nat → Int32) (s1 s2 s3 : Int32), (4000000000 - b).toNat < f → -4000000000 ≤ b → b < 4000000000 → T = dn ++ td → (∀ g ∈ td, b < g.1.toInt) → (∀ g ∈ dn, g.1.toInt ≤ b) → Mi m = some (rfO m w sl la sp rm ln (nI (qu ++ (dn).map (fun g : Grp => ((1, g) : Rec))).length) lt pr tl tk s1 s2 s3 (nI (dn).length)) → RA Mi m ft fk fv kp mk qi → (∀ j, j < (qu ++ (dn).map (fun g : Grp => ((1, g) : Rec))).length → (qu ++ (dn).map (fun g : Grp => ((1, g) : Rec)))[j]? = some (rowAt qi (6 * j))) → (∀ q, (q < m ∨ m + 6 < q) → Mi q = M q) → J p l e { frames := 2, cells := 0, slots := 0, locals := 52 } s m0 ([.ref m, .long (lI o1), .long (lI n1), .int 1] : List Value).toArray below meth c D ty vwCl b0 (MQ below (j_Q D ty vwCl b0 (fun r M' n' => r = some (.int (nI (wc (-2147483648) T))) ∧ n = n' ∧ ∃ (s1 s2 s3 : Int32) (qb : Nat → Int32), M' m = some (rfO m w sl la sp rm ln (nI (qu ++ (T).map (fun g : Grp => ((1, g) : Rec))).length) lt pr tl tk s1 s2 s3 (nI (T).length)) ∧ RA M' m ft fk fv kp mk qb ∧ (∀ j, j < (qu ++ (T).map (fun g : Grp => ((1, g) : Rec))).length → (qu ++ (T).map (fun g : Grp => ((1, g) : Rec)))[j]? = some (rowAt qb (6 * j))) ∧ ∀ q, (q < m ∨ m + 6 < q) → M' q = M q)) ([.ref m, .long (lI o1), .long (lI n1), .int 1] : List Value).toArray s 0 0 (fun q => b0 ≤ q)) 11 Mi n 0 0 17 [some (.ref m), some (.long (lI o1)), none, some (.long (lI n1)), none, some (.int 1), some (.int (nI (wc (-2147483648) dn))), some (.long (lI (nE w.toInt sl.toInt ft b A.length))), none, none, none] [] := by
    intro f
    induction f with
    | zero => intro b dn td Mi qi s1 s2 s3 hf; exact absurd hf (Nat.not_lt_zero _)
    | succ f ih =>
      intro b dn td Mi qi s1 s2 s3 hf hb1 hb2 hsp htb hdb hmi hra hqi hfr
      have hG2 : Gs = dn ++ (td ++ U) := by rw [hGs, hsp, List.append_assoc]
      have hTd : ∀ g ∈ td, g.1.toInt ≤ n1 - la.toInt := fun g hg => hT g (by rw [hsp]; exact List.mem_append_right _ hg)
      obtain ⟨hx1, hx2, hx3⟩ := step_end hN.1.1 hN.2.1 h16 hGL hG2 hTd htb hA
      have hzr := nE_rng (b := b) hN.1 hN.2 hTt
      generalize hz : nE w.toInt sl.toInt ft b A.length = z at hx1 hx2 hx3 hzr ⊢
      have hbz : bigI z := ⟨by omega, by omega⟩
      have hbzl : bigI (z + la.toInt) := ⟨by omega, by omega⟩
      have hb4 : bigI 4000000000 := ⟨by omega, by omega⟩
      obtain ⟨h1, h2, h3, h4, h5, h6⟩ := id hra
      have hmi2 : Mi m = some (.inr (5, [.int w, .int sl, .int la, .int sp, .int rm, .int ln, .ref (m + 1), .ref (m + 2), .ref (m + 3), .ref (m + 4), .ref (m + 5), .ref (m + 6), .int (nI (qu ++ (dn).map (fun g : Grp => ((1, g) : Rec))).length), .int lt, .int pr, .int tl, .int tk, .int s1, .int s2, .int s3, .int (nI (dn).length)])) := hmi
      refine j_lload X dX5_goOver_17 rfl ?_
      refine j_ldc2 X dX5_goOver_19 wdX5_goOver_c99 ?_
      refine j_st (st := [.long (lI 4000000000), .long (lI z)]) (by rw [l_c4]) ?_
      refine j_lc_ge X 140 dX5_goOver_22 dX5_goOver_23 (by decide) (fun c52 => ?_) (fun c52 => ?_)
      · skip
        refine j_iload X dX5_goOver_140 rfl ?_
        exact j_iret X hlk hr (by omega) (by omega) dX5_goOver_142 (by have htd := hx1 (Or.inl ((lI_le hb4 hbz).mp c52)); subst htd; rw [List.append_nil] at hsp; subst hsp; exact ⟨rfl, rfl, s1, s2, s3, qi, hmi, hra, hqi, hfr⟩)
      · skip
        refine j_aload_n X 0 dX5_goOver_26 rfl rfl ?_
        refine j_lload X dX5_goOver_27 rfl ?_
        refine j_lload_n X 3 dX5_goOver_29 rfl rfl ?_
        refine j_callV X nwSQ_ok (As := [.long (lI z), .long (lI n1)]) (rest := []) hmi2 rfl rfl (c_X5_isOver l D hI b0 hmi2 ⟨h1, h2, h3, h4, h5, h6⟩ z n1 hbzl hbn) rfl gX5_goOver_X5_isOver ⟨rfl, ddX5_isOver⟩ ⟨Nat.le_of_ble_eq_true rfl, Nat.le_of_ble_eq_true rfl⟩ (Nat.le_of_ble_eq_true rfl) rfl dX5_goOver_30 ⟨(by show 0 + 0 ≤ 0; omega), (by show 0 + 0 ≤ 0; omega)⟩ (fun r53 M54 n55 hr56 => ?_)
        obtain ⟨rfl, rfl, rfl⟩ := hr56
        refine j_st (st := [.int (if z + la.toInt ≤ n1 then 1 else 0)]) rfl ?_
        refine j_if_eq X 140 dX5_goOver_33 (by decide) (fun c57 => ?_) (fun c57 => ?_)
        · skip
          refine j_iload X dX5_goOver_140 rfl ?_
          exact j_iret X hlk hr (by omega) (by omega) dX5_goOver_142 (by have htd := hx1 (Or.inr (by have := zo_eq.mp c57; omega)); subst htd; rw [List.append_nil] at hsp; subst hsp; exact ⟨rfl, rfl, s1, s2, s3, qi, hmi, hra, hqi, hfr⟩)
        · skip
          refine j_aload_n X 0 dX5_goOver_36 rfl rfl ?_
          refine j_lload X dX5_goOver_37 rfl ?_
          refine j_lload_n X 1 dX5_goOver_39 rfl rfl ?_
          refine j_callV X nwSQ_ok (As := [.long (lI z), .long (lI o1)]) (rest := []) hmi2 rfl rfl (c_X5_isOver l D hI b0 hmi2 ⟨h1, h2, h3, h4, h5, h6⟩ z o1 hbzl hbo) rfl gX5_goOver_X5_isOver ⟨rfl, ddX5_isOver⟩ ⟨Nat.le_of_ble_eq_true rfl, Nat.le_of_ble_eq_true rfl⟩ (Nat.le_of_ble_eq_true rfl) rfl dX5_goOver_40 ⟨(by show 0 + 0 ≤ 0; omega), (by show 0 + 0 ≤ 0; omega)⟩ (fun r58 M59 n60 hr61 => ?_)
          obtain ⟨rfl, rfl, rfl⟩ := hr61
          refine j_st (st := [.int (if z + la.toInt ≤ o1 then 1 else 0)]) rfl ?_
          refine j_if_ne X 129 dX5_goOver_43 (by decide) (fun c62 => ?_) (fun c62 => ?_)
          · skip
            refine j_aload_n X 0 dX5_goOver_129 rfl rfl ?_
            refine j_lload X dX5_goOver_130 rfl ?_
            refine j_callV X nwSQ_ok (As := [.long (lI z)]) (rest := []) hmi2 rfl rfl (c_X5_nextEnd l D hI b0 hmi2 ⟨h1, h2, h3, h4, h5, h6⟩ hk0 ha hN hTt z ⟨by omega, by omega⟩) rfl gX5_goOver_X5_nextEnd ⟨rfl, ddX5_nextEnd⟩ ⟨Nat.le_of_ble_eq_true rfl, Nat.le_of_ble_eq_true rfl⟩ (Nat.le_of_ble_eq_true rfl) rfl dX5_goOver_132 ⟨(by show 0 + 0 ≤ 0; omega), (by show 0 + 0 ≤ 0; omega)⟩ (fun r63 M64 n65 hr66 => ?_)
            obtain ⟨rfl, rfl, rfl⟩ := hr66
            refine j_st (st := [.long (lI (nE w.toInt sl.toInt ft z A.length))]) rfl ?_
            refine j_lstore X dX5_goOver_135 (by decide) rfl (L' := [some (.ref m), some (.long (lI o1)), none, some (.long (lI n1)), none, some (.int 1), some (.int (nI (wc (-2147483648) dn))), some (.long (lI (nE w.toInt sl.toInt ft z A.length))), none, none, none]) rfl ?_
            refine j_goto X 17 dX5_goOver_137 (by decide) ?_
            refine j_wk (L2 := [some (.ref m), some (.long (lI o1)), none, some (.long (lI n1)), none, some (.int 1), some (.int (nI (wc (-2147483648) dn))), some (.long (lI (nE w.toInt sl.toInt ft z A.length))), none, none, none]) ⟨rfl, rfl, rfl, rfl, rfl, rfl, trivial⟩ ?_
            have hz4 : z < 4000000000 := Int.not_le.mp (fun q => c52 ((lI_le hb4 hbz).mpr q))
            have hzo : z + la.toInt ≤ o1 := zo_ne.mp c62
            obtain ⟨hbz2, _⟩ := hx3 hz4
            exact ih z dn td Mi qi s1 s2 s3 (toNat_dec hf hbz2 hz4) (Int.le_trans hb1 (Int.le_of_lt hbz2)) hz4 hsp (fun g hg => by have h9 := (hGL.2.1 g (by rw [hG2]; exact List.mem_append_right _ (List.mem_append_left _ hg))).2.1; omega) (fun g hg => by have := hdb g hg; omega) hmi hra hqi hfr
          · skip
            refine j_iinc X dX5_goOver_46 rfl (v := nI (wc (-2147483648) dn + 1)) (nI_1 _) (by decide) rfl (L' := [some (.ref m), some (.long (lI o1)), none, some (.long (lI n1)), none, some (.int 1), some (.int (nI (wc (-2147483648) dn + 1))), some (.long (lI z)), none, none, none]) rfl ?_
            refine j_aload_n X 0 dX5_goOver_49 rfl rfl ?_
            refine j_lload X dX5_goOver_50 rfl ?_
            refine j_ldc2 X dX5_goOver_52 wdX5_goOver_c121 ?_
            refine j_st (st := [.long (lI (-4000000000)), .long (lI z), .ref m]) (by rw [l_c4n]) ?_
            refine j_callV X nwSQ_ok (As := [.long (lI z), .long (lI (-4000000000))]) (rest := []) hmi2 rfl rfl (c_X5_nextKey l D hI b0 hmi2 ⟨h1, h2, h3, h4, h5, h6⟩ hk0 ha hN hTt z (-4000000000) ⟨by omega, by omega⟩ ⟨by omega, by omega⟩) rfl gX5_goOver_X5_nextKey ⟨rfl, ddX5_nextKey⟩ ⟨Nat.le_of_ble_eq_true rfl, Nat.le_of_ble_eq_true rfl⟩ (Nat.le_of_ble_eq_true rfl) rfl dX5_goOver_55 ⟨(by show 0 + 0 ≤ 0; omega), (by show 0 + 0 ≤ 0; omega)⟩ (fun r67 M68 n69 hr70 => ?_)
            obtain ⟨rfl, rfl, rfl⟩ := hr70
            refine j_st (st := [.long (lI (nK w.toInt ft fk z (-4000000000) A.length))]) rfl ?_
            refine j_lstore X dX5_goOver_58 (by decide) rfl (L' := [some (.ref m), some (.long (lI o1)), none, some (.long (lI n1)), none, some (.int 1), some (.int (nI (wc (-2147483648) dn + 1))), some (.long (lI z)), none, some (.long (lI (nK w.toInt ft fk z (-4000000000) A.length))), none]) rfl ?_
            have hz4 : z < 4000000000 := Int.not_le.mp (fun q => c52 ((lI_le hb4 hbz).mpr q))
            have hzn : z + la.toInt ≤ n1 := zo_ne.mp c57
            have hzo : ¬ z + la.toInt ≤ o1 := zo_eq.mp c62
            obtain ⟨hbz2, hzW, i0, hi0, hin0⟩ := hx3 hz4
            have hk1 : nK w.toInt ft fk z (-4000000000) A.length < 4000000000 := by have h9 := (nK_spec (w := w.toInt) (e := z) (b := -4000000000) (ft := ft) (fk := fk) (a := A.length)).2.2 i0 hi0 hin0 (by have := i_rng (fk i0); omega); have := i_rng (fk i0); omega
            have hti0 := hTt i0 hi0
            have hzlo : -2147483648 < z := by have := hin0.1; omega
            have inner : ∀ (f2 : Nat) (kb : Int) (bl td2 : List Grp) (Mj : jM) (qj : Nat → Int32) (r1 r2 r3 : Int32), (4000000000 - kb).toNat < f2 → -4000000000 ≤ kb → kb < 4000000000 → T = (dn ++ bl) ++ td2 → (∀ g ∈ bl, g.1.toInt = z ∧ g.2.1.toInt ≤ kb) → (bl ≠ [] ∨ kb = -4000000000) → (∀ g ∈ td2, z ≤ g.1.toInt ∧ (g.1.toInt = z → kb < g.2.1.toInt)) → Mj m = some (rfO m w sl la sp rm ln (nI (qu ++ (dn ++ bl).map (fun g : Grp => ((1, g) : Rec))).length) lt pr tl tk r1 r2 r3 (nI (dn ++ bl).length)) → RA Mj m ft fk fv kp mk qj → (∀ j, j < (qu ++ (dn ++ bl).map (fun g : Grp => ((1, g) : Rec))).length → (qu ++ (dn ++ bl).map (fun g : Grp => ((1, g) : Rec)))[j]? = some (rowAt qj (6 * j))) → (∀ q, (q < m ∨ m + 6 < q) → Mj q = M q) → J p l e { frames := 2, cells := 0, slots := 0, locals := 52 } s m0 ([.ref m, .long (lI o1), .long (lI n1), .int 1] : List Value).toArray below meth c D ty vwCl b0 (MQ below (j_Q D ty vwCl b0 (fun r M' n' => r = some (.int (nI (wc (-2147483648) T))) ∧ n = n' ∧ ∃ (s1 s2 s3 : Int32) (qb : Nat → Int32), M' m = some (rfO m w sl la sp rm ln (nI (qu ++ (T).map (fun g : Grp => ((1, g) : Rec))).length) lt pr tl tk s1 s2 s3 (nI (T).length)) ∧ RA M' m ft fk fv kp mk qb ∧ (∀ j, j < (qu ++ (T).map (fun g : Grp => ((1, g) : Rec))).length → (qu ++ (T).map (fun g : Grp => ((1, g) : Rec)))[j]? = some (rowAt qb (6 * j))) ∧ ∀ q, (q < m ∨ m + 6 < q) → M' q = M q)) ([.ref m, .long (lI o1), .long (lI n1), .int 1] : List Value).toArray s 0 0 (fun q => b0 ≤ q)) 11 Mj n 0 0 60 [some (.ref m), some (.long (lI o1)), none, some (.long (lI n1)), none, some (.int 1), some (.int (nI (wc (-2147483648) dn + 1))), some (.long (lI z)), none, some (.long (lI (nK w.toInt ft fk z kb A.length))), none] [] := by
              intro f2
              induction f2 with
              | zero => intro kb bl td2 Mj qj r1 r2 r3 hf2; exact absurd hf2 (Nat.not_lt_zero _)
              | succ f2 ih2 =>
                intro kb bl td2 Mj qj r1 r2 r3 hf2 hkb1 hkb2 hsp2 hbl hne htk hmj hrj hqj hfj
                have hG3 : Gs = (dn ++ bl) ++ (td2 ++ U) := by rw [hGs, hsp2, List.append_assoc]
                have hdk : ∀ g ∈ dn ++ bl, g.1.toInt < z ∨ (g.1.toInt = z ∧ g.2.1.toInt ≤ kb) := fun g hg => (List.mem_append.mp hg).elim (fun h => Or.inl (by have := hdb g h; omega)) (fun h => Or.inr (hbl g h))
                obtain ⟨hy1, hy2⟩ := step_key hGL hG3 hU hzW (by omega) (by omega) htk hdk hA
                have hkr := nK_rng (w := w.toInt) (ft := ft) (fk := fk) (e := z) (b := kb) (i := A.length)
                have hk1b : kb = -4000000000 → nK w.toInt ft fk z kb A.length < 4000000000 := fun h => by rw [h]; exact hk1
                generalize hk : nK w.toInt ft fk z kb A.length = k1 at hy1 hy2 hkr hk1b ⊢
                have hbk : bigI k1 := ⟨by omega, by omega⟩
                obtain ⟨h1, h2, h3, h4, h5, h6⟩ := id hrj
                have hmj2 : Mj m = some (.inr (5, [.int w, .int sl, .int la, .int sp, .int rm, .int ln, .ref (m + 1), .ref (m + 2), .ref (m + 3), .ref (m + 4), .ref (m + 5), .ref (m + 6), .int (nI (qu ++ (dn ++ bl).map (fun g : Grp => ((1, g) : Rec))).length), .int lt, .int pr, .int tl, .int tk, .int r1, .int r2, .int r3, .int (nI (dn ++ bl).length)])) := hmj
                refine j_lload X dX5_goOver_60 rfl ?_
                refine j_ldc2 X dX5_goOver_62 wdX5_goOver_c99 ?_
                refine j_st (st := [.long (lI 4000000000), .long (lI k1)]) (by rw [l_c4]) ?_
                refine j_lc_ge X 129 dX5_goOver_65 dX5_goOver_66 (by decide) (fun c71 => ?_) (fun c71 => ?_)
                · skip
                  refine j_aload_n X 0 dX5_goOver_129 rfl rfl ?_
                  refine j_lload X dX5_goOver_130 rfl ?_
                  refine j_callV X nwSQ_ok (As := [.long (lI z)]) (rest := []) hmj2 rfl rfl (c_X5_nextEnd l D hI b0 hmj2 ⟨h1, h2, h3, h4, h5, h6⟩ hk0 ha hN hTt z ⟨by omega, by omega⟩) rfl gX5_goOver_X5_nextEnd ⟨rfl, ddX5_nextEnd⟩ ⟨Nat.le_of_ble_eq_true rfl, Nat.le_of_ble_eq_true rfl⟩ (Nat.le_of_ble_eq_true rfl) rfl dX5_goOver_132 ⟨(by show 0 + 0 ≤ 0; omega), (by show 0 + 0 ≤ 0; omega)⟩ (fun r72 M73 n74 hr75 => ?_)
                  obtain ⟨rfl, rfl, rfl⟩ := hr75
                  refine j_st (st := [.long (lI (nE w.toInt sl.toInt ft z A.length))]) rfl ?_
                  refine j_lstore X dX5_goOver_135 (by decide) rfl (L' := [some (.ref m), some (.long (lI o1)), none, some (.long (lI n1)), none, some (.int 1), some (.int (nI (wc (-2147483648) dn + 1))), some (.long (lI (nE w.toInt sl.toInt ft z A.length))), none, some (.long (lI k1)), none]) rfl ?_
                  refine j_goto X 17 dX5_goOver_137 (by decide) ?_
                  refine j_wk (L2 := [some (.ref m), some (.long (lI o1)), none, some (.long (lI n1)), none, some (.int 1), some (.int (nI (wc (-2147483648) dn + 1))), some (.long (lI (nE w.toInt sl.toInt ft z A.length))), none, none, none]) ⟨rfl, rfl, rfl, rfl, rfl, rfl, trivial⟩ ?_
                  have hy3 := hy1 ((lI_le hb4 hbk).mp c71)
                  have hne2 : bl ≠ [] := hne.elim id (fun h => absurd ((lI_le hb4 hbk).mp c71) (by have := hk1b h; omega))
                  have hi := ih z (dn ++ bl) td2 Mj qj r1 r2 r3 (toNat_dec hf hbz2 hz4) (Int.le_trans hb1 (Int.le_of_lt hbz2)) hz4 hsp2 hy3 (fun g hg => (List.mem_append.mp hg).elim (fun h => by have := hdb g h; omega) (fun h => by have := (hbl g h).1; omega)) hmj hrj hqj hfj
                  rw [wc_step hzlo (fun g hg => by have := hdb g hg; omega) (fun g hg => (hbl g hg).1) hne2] at hi
                  exact hi
                · skip
                  have hk4 : k1 < 4000000000 := Int.not_le.mp (fun q => c71 ((lI_le hb4 hbk).mpr q))
                  obtain ⟨hkk, g, rest, htd2, hgz, hgk, hrest⟩ := hy2 hk4
                  have hgz2 : Int32.ofInt z = g.1 := by rw [← hgz]; exact i_of
                  have hgk2 : Int32.ofInt k1 = g.2.1 := by rw [← hgk]; exact i_of
                  have hgag : g.2.2 = agg w.toInt z g.2.1 A := by have h9 := (hGL.2.1 g (by rw [hG3, htd2]; exact List.mem_append_right _ (List.mem_append_left _ List.mem_cons_self))).2.2.2; rw [hgz] at h9; exact h9
                  refine j_aload_n X 0 dX5_goOver_69 rfl rfl ?_
                  refine j_dup X dX5_goOver_70 rfl ?_
                  refine j_get X hmj2 rfl iwX5_goOver_X5 20 (by decide) lkX5_goOver_118 rfl dX5_goOver_71 ?_
                  refine j_iconst X dX5_goOver_74 (v := 1) (by decide) ?_
                  refine j_iadd X dX5_goOver_75 ?_
                  refine j_st (st := [.int (nI ((dn ++ bl).length + 1)), .ref m]) (by rw [show (nI (dn ++ bl).length) + 1 = nI ((dn ++ bl).length + 1) from nI_add _ 1]) ?_
                  refine j_put X hmj2 rfl iwX5_goOver_X5 tyX5 tyX5_ok nmX5 20 (by decide) lkX5_goOver_118 rfl rfl rfl (Nat.le_of_ble_eq_true rfl) (fs' := [.int w, .int sl, .int la, .int sp, .int rm, .int ln, .ref (m + 1), .ref (m + 2), .ref (m + 3), .ref (m + 4), .ref (m + 5), .ref (m + 6), .int (nI (qu ++ (dn ++ bl).map (fun g : Grp => ((1, g) : Rec))).length), .int lt, .int pr, .int tl, .int tk, .int r1, .int r2, .int r3, .int (nI ((dn ++ bl).length + 1))]) rfl dX5_goOver_76 ?_
                  generalize eM76 : j_up Mj m (.inr (5, [.int w, .int sl, .int la, .int sp, .int rm, .int ln, .ref (m + 1), .ref (m + 2), .ref (m + 3), .ref (m + 4), .ref (m + 5), .ref (m + 6), .int (nI (qu ++ (dn ++ bl).map (fun g : Grp => ((1, g) : Rec))).length), .int lt, .int pr, .int tl, .int tk, .int r1, .int r2, .int r3, .int (nI ((dn ++ bl).length + 1))])) = M76
                  have h78 : M76 (m + 1) = some (.inl (0, 400, .inl ft)) := by rw [← eM76, j_up_ne _ _ (by omega)]; exact h1
                  have h79 : M76 (m + 2) = some (.inl (0, 400, .inl fk)) := by rw [← eM76, j_up_ne _ _ (by omega)]; exact h2
                  have h80 : M76 (m + 3) = some (.inl (0, 400, .inl fv)) := by rw [← eM76, j_up_ne _ _ (by omega)]; exact h3
                  have h81 : M76 (m + 4) = some (.inl (0, 2, .inl kp)) := by rw [← eM76, j_up_ne _ _ (by omega)]; exact h4
                  have h82 : M76 (m + 5) = some (.inl (0, 2, .inl mk)) := by rw [← eM76, j_up_ne _ _ (by omega)]; exact h5
                  have h83 : M76 (m + 6) = some (.inl (0, 2400, .inl qj)) := by rw [← eM76, j_up_ne _ _ (by omega)]; exact h6
                  have h84 : M76 m = some (.inr (5, [.int w, .int sl, .int la, .int sp, .int rm, .int ln, .ref (m + 1), .ref (m + 2), .ref (m + 3), .ref (m + 4), .ref (m + 5), .ref (m + 6), .int (nI (qu ++ (dn ++ bl).map (fun g : Grp => ((1, g) : Rec))).length), .int lt, .int pr, .int tl, .int tk, .int r1, .int r2, .int r3, .int (nI ((dn ++ bl).length + 1))])) := by rw [← eM76]; exact j_up_self _ _ _
                  refine j_iload X dX5_goOver_79 rfl ?_
                  refine j_if_eq X 116 dX5_goOver_81 (by decide) (fun c85 => ?_) (fun c85 => ?_)
                  · skip
                    exact absurd c85 (by decide)
                  · skip
                    refine j_aload_n X 0 dX5_goOver_84 rfl rfl ?_
                    refine j_lload X dX5_goOver_85 rfl ?_
                    refine j_lload X dX5_goOver_87 rfl ?_
                    refine j_l2i X dX5_goOver_89 ?_
                    refine j_st (st := [.int (Int32.ofInt k1), .long (lI z), .ref m]) (by rw [l_i32]) ?_
                    refine j_callV X nwSQ_ok (As := [.long (lI z), .int (Int32.ofInt k1)]) (rest := []) h84 rfl rfl (c_X5_gather l D hI b0 h84 ⟨h78, h79, h80, h81, h82, h83⟩ hk0 ha hN hTt z ⟨by omega, by omega⟩ (Int32.ofInt k1)) rfl gX5_goOver_X5_gather ⟨rfl, ddX5_gather⟩ ⟨Nat.le_of_ble_eq_true rfl, Nat.le_of_ble_eq_true rfl⟩ (Nat.le_of_ble_eq_true rfl) rfl dX5_goOver_90 ⟨(by show 0 + 0 ≤ 0; omega), (by show 0 + 0 ≤ 0; omega)⟩ (fun r86 M87 n88 hr89 => ?_)
                    obtain ⟨rfl, rfl, hmg, hfg⟩ := hr89
                    refine j_st (st := []) rfl ?_
                    rw [hgk2, gR_agg hA A.length (Nat.le_refl _), List.take_length, ← hgag] at hmg
                    have hmg : M87 m = some (.inr (5, [.int w, .int sl, .int la, .int sp, .int rm, .int ln, .ref (m + 1), .ref (m + 2), .ref (m + 3), .ref (m + 4), .ref (m + 5), .ref (m + 6), .int (nI (qu ++ (dn ++ bl).map (fun g : Grp => ((1, g) : Rec))).length), .int lt, .int pr, .int tl, .int tk, .int g.2.2.1, .int g.2.2.2.1, .int g.2.2.2.2, .int (nI ((dn ++ bl).length + 1))])) := hmg
                    have h90 : M87 (m + 1) = some (.inl (0, 400, .inl ft)) := by rw [hfg _ (by omega)]; exact h78
                    have h91 : M87 (m + 2) = some (.inl (0, 400, .inl fk)) := by rw [hfg _ (by omega)]; exact h79
                    have h92 : M87 (m + 3) = some (.inl (0, 400, .inl fv)) := by rw [hfg _ (by omega)]; exact h80
                    have h93 : M87 (m + 4) = some (.inl (0, 2, .inl kp)) := by rw [hfg _ (by omega)]; exact h81
                    have h94 : M87 (m + 5) = some (.inl (0, 2, .inl mk)) := by rw [hfg _ (by omega)]; exact h82
                    have h95 : M87 (m + 6) = some (.inl (0, 2400, .inl qj)) := by rw [hfg _ (by omega)]; exact h83
                    have hfg2 : ∀ q, (q < m ∨ m + 6 < q) → M87 q = M76 q := fun q hq => hfg q (by omega)
                    refine j_aload_n X 0 dX5_goOver_93 rfl rfl ?_
                    refine j_iconst X dX5_goOver_94 (v := 1) (by decide) ?_
                    refine j_lload X dX5_goOver_95 rfl ?_
                    refine j_l2i X dX5_goOver_97 ?_
                    refine j_st (st := [.int (Int32.ofInt z), .int 1, .ref m]) (by rw [l_i32]) ?_
                    refine j_lload X dX5_goOver_98 rfl ?_
                    refine j_l2i X dX5_goOver_100 ?_
                    refine j_st (st := [.int (Int32.ofInt k1), .int (Int32.ofInt z), .int 1, .ref m]) (by rw [l_i32]) ?_
                    refine j_aload_n X 0 dX5_goOver_101 rfl rfl ?_
                    refine j_get X hmg rfl iwX5_goOver_X5 17 (by decide) lkX5_goOver_109 rfl dX5_goOver_102 ?_
                    refine j_aload_n X 0 dX5_goOver_105 rfl rfl ?_
                    refine j_get X hmg rfl iwX5_goOver_X5 18 (by decide) lkX5_goOver_112 rfl dX5_goOver_106 ?_
                    refine j_aload_n X 0 dX5_goOver_109 rfl rfl ?_
                    refine j_get X hmg rfl iwX5_goOver_X5 19 (by decide) lkX5_goOver_115 rfl dX5_goOver_110 ?_
                    have hql : (qu ++ (dn ++ bl).map (fun g : Grp => ((1, g) : Rec))).length < 400 := by rw [hsp2, htd2, List.length_append, List.length_cons] at hq4; rw [List.length_append, List.length_map]; omega
                    refine j_callV X nwSQ_ok (As := [.int 1, .int (Int32.ofInt z), .int (Int32.ofInt k1), .int g.2.2.1, .int g.2.2.2.1, .int g.2.2.2.2]) (rest := []) hmg rfl rfl (c_X5_record l D hI b0 (qd := 0) hmg ⟨h90, h91, h92, h93, h94, h95⟩ hql 1 (Int32.ofInt z) (Int32.ofInt k1) g.2.2.1 g.2.2.2.1 g.2.2.2.2) rfl gX5_goOver_X5_record ⟨rfl, ddX5_record⟩ ⟨Nat.le_of_ble_eq_true rfl, Nat.le_of_ble_eq_true rfl⟩ (Nat.le_of_ble_eq_true rfl) rfl dX5_goOver_113 ⟨(by show 0 + 0 ≤ 0; omega), (by show 0 + 0 ≤ 0; omega)⟩ (fun r96 M97 n98 hr99 => ?_)
                    obtain ⟨rfl, rfl, hmr, hrr, hfr2⟩ := hr99
                    refine j_st (st := []) rfl ?_
                    rw [hgz2, hgk2] at hrr
                    have hmr : M97 m = some (.inr (5, [.int w, .int sl, .int la, .int sp, .int rm, .int ln, .ref (m + 1), .ref (m + 2), .ref (m + 3), .ref (m + 4), .ref (m + 5), .ref (m + 6), .int (nI ((qu ++ (dn ++ bl).map (fun g : Grp => ((1, g) : Rec))).length + 1)), .int lt, .int pr, .int tl, .int tk, .int g.2.2.1, .int g.2.2.2.1, .int g.2.2.2.2, .int (nI ((dn ++ bl).length + 1))])) := hmr
                    obtain ⟨p1, p2, p3, p4, p5, p6⟩ := id hrr
                    refine j_aload_n X 0 dX5_goOver_116 rfl rfl ?_
                    refine j_lload X dX5_goOver_117 rfl ?_
                    refine j_lload X dX5_goOver_119 rfl ?_
                    refine j_callV X nwSQ_ok (As := [.long (lI z), .long (lI k1)]) (rest := []) hmr rfl rfl (c_X5_nextKey l D hI b0 hmr ⟨p1, p2, p3, p4, p5, p6⟩ hk0 ha hN hTt z k1 ⟨by omega, by omega⟩ ⟨by omega, by omega⟩) rfl gX5_goOver_X5_nextKey ⟨rfl, ddX5_nextKey⟩ ⟨Nat.le_of_ble_eq_true rfl, Nat.le_of_ble_eq_true rfl⟩ (Nat.le_of_ble_eq_true rfl) rfl dX5_goOver_121 ⟨(by show 0 + 0 ≤ 0; omega), (by show 0 + 0 ≤ 0; omega)⟩ (fun r100 M101 n102 hr103 => ?_)
                    obtain ⟨rfl, rfl, rfl⟩ := hr103
                    refine j_st (st := [.long (lI (nK w.toInt ft fk z k1 A.length))]) rfl ?_
                    refine j_lstore X dX5_goOver_124 (by decide) rfl (L' := [some (.ref m), some (.long (lI o1)), none, some (.long (lI n1)), none, some (.int 1), some (.int (nI (wc (-2147483648) dn + 1))), some (.long (lI z)), none, some (.long (lI (nK w.toInt ft fk z k1 A.length))), none]) rfl ?_
                    refine j_goto X 60 dX5_goOver_126 (by decide) ?_
                    refine j_wk (L2 := [some (.ref m), some (.long (lI o1)), none, some (.long (lI n1)), none, some (.int 1), some (.int (nI (wc (-2147483648) dn + 1))), some (.long (lI z)), none, some (.long (lI (nK w.toInt ft fk z k1 A.length))), none]) ⟨rfl, rfl, rfl, rfl, rfl, rfl, rfl, trivial⟩ ?_
                    have happ : dn ++ (bl ++ [g]) = (dn ++ bl) ++ [g] := (List.append_assoc _ _ _).symm
                    have hqn : qu ++ (dn ++ (bl ++ [g])).map (fun g : Grp => ((1, g) : Rec)) = (qu ++ (dn ++ bl).map (fun g : Grp => ((1, g) : Rec))) ++ [(1, g.1, g.2.1, g.2.2.1, g.2.2.2.1, g.2.2.2.2)] := by rw [happ, List.map_append (l₁ := dn ++ bl), ← List.append_assoc]; rfl
                    exact ih2 k1 (bl ++ [g]) rest M97 _ g.2.2.1 g.2.2.2.1 g.2.2.2.2 (toNat_dec hf2 hkk hk4) (Int.le_trans hkb1 (Int.le_of_lt hkk)) hk4 (by rw [hsp2, htd2, happ, List.append_assoc (dn ++ bl)]; rfl) (fun h hh => (List.mem_append.mp hh).elim (fun h9 => ⟨(hbl h h9).1, by have := (hbl h h9).2; omega⟩) (fun h9 => by rw [List.mem_singleton.mp h9]; exact ⟨hgz, by omega⟩)) (Or.inl (by simp)) hrest (by rw [hqn, happ, List.length_append (as := qu ++ (dn ++ bl).map (fun g : Grp => ((1, g) : Rec))), List.length_append (as := dn ++ bl)]; exact hmr) ⟨p1, p2, p3, p4, p5, p6⟩ (by rw [hqn]; exact q_push hqj _ _ _ _ _ _) (fun q hq => by rw [hfr2 _ (by omega), hfg2 _ (by omega), ← eM76, j_up_ne _ _ (by omega)]; exact hfj q hq)
            refine j_wk (L2 := [some (.ref m), some (.long (lI o1)), none, some (.long (lI n1)), none, some (.int 1), some (.int (nI (wc (-2147483648) dn + 1))), some (.long (lI z)), none, some (.long (lI (nK w.toInt ft fk z (-4000000000) A.length))), none]) ⟨rfl, rfl, rfl, rfl, rfl, rfl, rfl, trivial⟩ ?_
            have hi := inner 8000000001 (-4000000000) [] td Mi qi s1 s2 s3 (by decide) (by omega) (by omega) (by rw [List.append_nil]; exact hsp) (fun g hg => by cases hg) (Or.inr rfl) (fun g hg => ⟨hx2 g hg, fun _ => by have := i_rng g.2.1; omega⟩) (by rw [List.append_nil]; exact hmi) hra (by first | (rw [List.append_nil]; exact hqi) | exact hqi) hfr
            exact hi
  refine j_iconst X dX5_goOver_0 (v := 0) (by decide) ?_
  refine j_istore X dX5_goOver_1 (by decide) rfl (L' := [some (.ref m), some (.long (lI o1)), none, some (.long (lI n1)), none, some (.int 1), some (.int 0), none, none, none, none]) rfl ?_
  refine j_aload_n X 0 dX5_goOver_3 rfl rfl ?_
  refine j_iconst X dX5_goOver_4 (v := 0) (by decide) ?_
  refine j_put X hm rfl iwX5_goOver_X5 tyX5 tyX5_ok nmX5 20 (by decide) lkX5_goOver_118 rfl rfl rfl (Nat.le_of_ble_eq_true rfl) (fs' := [.int w, .int sl, .int la, .int sp, .int rm, .int ln, .ref (m + 1), .ref (m + 2), .ref (m + 3), .ref (m + 4), .ref (m + 5), .ref (m + 6), .int (nI qu.length), .int lt, .int pr, .int tl, .int tk, .int sm, .int my, .int gr, .int 0]) rfl dX5_goOver_5 ?_
  generalize eM104 : j_up M m (.inr (5, [.int w, .int sl, .int la, .int sp, .int rm, .int ln, .ref (m + 1), .ref (m + 2), .ref (m + 3), .ref (m + 4), .ref (m + 5), .ref (m + 6), .int (nI qu.length), .int lt, .int pr, .int tl, .int tk, .int sm, .int my, .int gr, .int 0])) = M104
  have h106 : M104 (m + 1) = some (.inl (0, 400, .inl ft)) := by rw [← eM104, j_up_ne _ _ (by omega)]; exact h1
  have h107 : M104 (m + 2) = some (.inl (0, 400, .inl fk)) := by rw [← eM104, j_up_ne _ _ (by omega)]; exact h2
  have h108 : M104 (m + 3) = some (.inl (0, 400, .inl fv)) := by rw [← eM104, j_up_ne _ _ (by omega)]; exact h3
  have h109 : M104 (m + 4) = some (.inl (0, 2, .inl kp)) := by rw [← eM104, j_up_ne _ _ (by omega)]; exact h4
  have h110 : M104 (m + 5) = some (.inl (0, 2, .inl mk)) := by rw [← eM104, j_up_ne _ _ (by omega)]; exact h5
  have h111 : M104 (m + 6) = some (.inl (0, 2400, .inl qa)) := by rw [← eM104, j_up_ne _ _ (by omega)]; exact h6
  have h112 : M104 m = some (.inr (5, [.int w, .int sl, .int la, .int sp, .int rm, .int ln, .ref (m + 1), .ref (m + 2), .ref (m + 3), .ref (m + 4), .ref (m + 5), .ref (m + 6), .int (nI qu.length), .int lt, .int pr, .int tl, .int tk, .int sm, .int my, .int gr, .int 0])) := by rw [← eM104]; exact j_up_self _ _ _
  refine j_aload_n X 0 dX5_goOver_8 rfl rfl ?_
  refine j_ldc2 X dX5_goOver_9 wdX5_goOver_c121 ?_
  refine j_st (st := [.long (lI (-4000000000)), .ref m]) (by rw [l_c4n]) ?_
  refine j_callV X nwSQ_ok (As := [.long (lI (-4000000000))]) (rest := []) h112 rfl rfl (c_X5_nextEnd l D hI b0 h112 ⟨h106, h107, h108, h109, h110, h111⟩ hk0 ha hN hTt (-4000000000) ⟨by omega, by omega⟩) rfl gX5_goOver_X5_nextEnd ⟨rfl, ddX5_nextEnd⟩ ⟨Nat.le_of_ble_eq_true rfl, Nat.le_of_ble_eq_true rfl⟩ (Nat.le_of_ble_eq_true rfl) rfl dX5_goOver_12 ⟨(by show 0 + 0 ≤ 0; omega), (by show 0 + 0 ≤ 0; omega)⟩ (fun r113 M114 n115 hr116 => ?_)
  obtain ⟨rfl, rfl, rfl⟩ := hr116
  refine j_st (st := [.long (lI (nE w.toInt sl.toInt ft (-4000000000) A.length))]) rfl ?_
  refine j_lstore X dX5_goOver_15 (by decide) rfl (L' := [some (.ref m), some (.long (lI o1)), none, some (.long (lI n1)), none, some (.int 1), some (.int 0), some (.long (lI (nE w.toInt sl.toInt ft (-4000000000) A.length))), none, none, none]) rfl ?_
  refine j_wk (L2 := [some (.ref m), some (.long (lI o1)), none, some (.long (lI n1)), none, some (.int 1), some (.int 0), some (.long (lI (nE w.toInt sl.toInt ft (-4000000000) A.length))), none, none, none]) ⟨rfl, rfl, rfl, rfl, rfl, rfl, trivial⟩ ?_
  exact outer 8000000001 (-4000000000) [] T M104 qa sm my gr (by decide) (by omega) (by omega) rfl (fun g hg => by have := i_rng g.1; omega) (fun g hg => by cases hg) (by rw [List.map_nil, List.append_nil]; exact h112) ⟨h106, h107, h108, h109, h110, h111⟩ (by rw [List.map_nil, List.append_nil]; exact hQ) (fun q hq => by rw [← eM104, j_up_ne _ _ (by omega)])
