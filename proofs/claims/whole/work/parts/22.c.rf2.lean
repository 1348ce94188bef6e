set_option maxHeartbeats 800000 in
set_option maxRecDepth 100000 in
theorem c_X5_nextEnd (l : Launch) (D : va_G) {ty : jT} {cA : ClassId} (hI : ty[0]? = some (cA, .int)) (b0 : Nat) {M : jM} {n m : Nat} {w sl la sp rm ln qd lt pr tl tk sm my gr rc : Int32} {ft fk fv kp mk qa : Nat → Int32} (hm : M m = some (rfO m w sl la sp rm ln qd lt pr tl tk sm my gr rc)) (hr0 : RA M m ft fk fv kp mk qa) {a : Nat} (hk0 : kp 0 = nI a) (ha : a ≤ 200) (hN : okN w sl) (hT : okts ft a) (b : Int) (hb : -100000000000 ≤ b ∧ b ≤ 100000000000) : Ct l D ty vwCl nwSQ b0 yX5_nextEnd wsX5_nextEnd 1 23 0 0 [.ref m, .long (lI b)] M n (j_rd (.long (lI (nE w.toInt sl.toInt ft b a))) M n) := by
  have hm : M m = some (.inr (5, [.int w, .int sl, .int la, .int sp, .int rm, .int ln, .ref (m + 1), .ref (m + 2), .ref (m + 3), .ref (m + 4), .ref (m + 5), .ref (m + 6), .int qd, .int lt, .int pr, .int tl, .int tk, .int sm, .int my, .int gr, .int rc])) := hm
  obtain ⟨h1, h2, h3, h4, h5, h6⟩ := id hr0
  have hbb : bigI b := ⟨by omega, by omega⟩
  refine j_start (cc := cX5_nextEnd) (maxL := 10) (ret := (some .long)) (by decide) rfl [some (.ref m), some (.long (lI b)), none, none, none, none, none, none, none, none] (Nat.le_of_ble_eq_true rfl) rfl ?_
  intro p e s m0 below meth c X hlk hr hnm
  have outer : ∀ (z i : Nat), i + z = a → J p l e { frames := 1, cells := 0, slots := 0, locals := 23 } s m0 ([.ref m, .long (lI b)] : List Value).toArray below meth c D ty vwCl b0 (MQ below (j_Q D ty vwCl b0 (j_rd (.long (lI (nE w.toInt sl.toInt ft b a))) M n)) ([.ref m, .long (lI b)] : List Value).toArray s 0 0 (fun q => b0 ≤ q)) 10 M n 0 0 7 [some (.ref m), some (.long (lI b)), none, some (.long (lI (nE w.toInt sl.toInt ft b i))), none, some (.int (nI i)), none, none, none, none] [] := by
    intro z
    induction z with
    | zero =>
      intro i hz
      have hia : i = a := by omega
      subst hia
      refine j_iload X dX5_nextEnd_7 rfl ?_
      refine j_aload_n X 0 dX5_nextEnd_9 rfl rfl ?_
      refine j_get X hm rfl iwX5_nextEnd_X5 9 (by decide) lkX5_nextEnd_32 rfl dX5_nextEnd_10 ?_
      refine j_iconst X dX5_nextEnd_13 (v := 0) (by decide) ?_
      refine j_iald X h4 hI (vp_in_nI (n := 0) (by decide) (by decide)) (v := nI i) (hk0) dX5_nextEnd_14 ?_
      refine j_icmp_ge X 102 dX5_nextEnd_15 (by decide) (fun c1 => ?_) (fun c1 => ?_)
      · skip
        refine j_lload_n X 3 dX5_nextEnd_102 rfl rfl ?_
        exact j_lret X hlk hr (by omega) (by omega) dX5_nextEnd_103 ⟨rfl, rfl, rfl⟩
      · skip
        exact absurd (nI_le (Nat.le_refl i) (by omega)) c1
    | succ z ih =>
      intro i hz
      have hti := hT i (by omega)
      have hle := lastE_rng hN.1 hN.2 hti
      have hne := nE_rng (b := b) hN.1 hN.2 (fun j hj => hT j (show j < a by omega)) (i := i)
      have inner : ∀ (y j : Nat), j + y = 16 → J p l e { frames := 1, cells := 0, slots := 0, locals := 23 } s m0 ([.ref m, .long (lI b)] : List Value).toArray below meth c D ty vwCl b0 (MQ below (j_Q D ty vwCl b0 (j_rd (.long (lI (nE w.toInt sl.toInt ft b a))) M n)) ([.ref m, .long (lI b)] : List Value).toArray s 0 0 (fun q => b0 ≤ q)) 10 M n 0 0 21 [some (.ref m), some (.long (lI b)), none, some (.long (lI (nEin w.toInt sl.toInt (ft i).toInt b j (nE w.toInt sl.toInt ft b i)))), none, some (.int (nI i)), some (.int (nI j)), none, none, none] [] := by
        intro y
        induction y with
        | zero =>
          intro j hy
          have hj : j = 16 := by omega
          subst hj
          refine j_iload X dX5_nextEnd_21 rfl ?_
          refine j_bipush X dX5_nextEnd_23 (v := 16) (by decide) ?_
          refine j_icmp_ge X 96 dX5_nextEnd_25 (by decide) (fun c2 => ?_) (fun c2 => ?_)
          · skip
            refine j_iinc X dX5_nextEnd_96 rfl (v := nI (i + 1)) (nI_1 _) (by decide) rfl (L' := [some (.ref m), some (.long (lI b)), none, some (.long (lI (nEin w.toInt sl.toInt (ft i).toInt b 16 (nE w.toInt sl.toInt ft b i)))), none, some (.int (nI (i + 1))), some (.int (nI 16)), none, none, none]) rfl ?_
            refine j_goto X 7 dX5_nextEnd_99 (by decide) ?_
            refine j_wk (L2 := [some (.ref m), some (.long (lI b)), none, some (.long (lI (nEin w.toInt sl.toInt (ft i).toInt b 16 (nE w.toInt sl.toInt ft b i)))), none, some (.int (nI (i + 1))), none, none, none, none]) ⟨rfl, rfl, rfl, rfl, trivial⟩ ?_
            exact ih (i + 1) (by omega)
          · skip
            exact absurd (by decide) c2
        | succ y ihy =>
          intro j hy
          have hjs := jsl_rng hN.2 (show j ≤ 16 by omega)
          have hei := nEin_rng (b := b) hN.1 hN.2 hti (show j ≤ 16 by omega) hne
          have hbe : bigI (lastE w.toInt sl.toInt (ft i).toInt - ((j : Nat) : Int) * sl.toInt) := ⟨by omega, by omega⟩
          have hbb2 : bigI (nEin w.toInt sl.toInt (ft i).toInt b j (nE w.toInt sl.toInt ft b i)) := ⟨by omega, by omega⟩
          refine j_iload X dX5_nextEnd_21 rfl ?_
          refine j_bipush X dX5_nextEnd_23 (v := 16) (by decide) ?_
          refine j_icmp_ge X 96 dX5_nextEnd_25 (by decide) (fun c3 => ?_) (fun c3 => ?_)
          · skip
            exact absurd c3 (nI_ge (b := 16) (show j < 16 by omega) (by decide))
          · skip
            refine j_aload_n X 0 dX5_nextEnd_28 rfl rfl ?_
            refine j_iload X dX5_nextEnd_29 rfl ?_
            refine j_callV X nwSQ_ok (As := [.int (nI i)]) (rest := []) hm rfl rfl (c_X5_lastEnd l D hI b0 hm ⟨h1, h2, h3, h4, h5, h6⟩ (j := i) (by omega) hN.2 (hT i (by omega))) rfl gX5_nextEnd_X5_lastEnd ⟨rfl, ddX5_lastEnd⟩ ⟨Nat.le_of_ble_eq_true rfl, Nat.le_of_ble_eq_true rfl⟩ (Nat.le_of_ble_eq_true rfl) rfl dX5_nextEnd_31 ⟨(by show 0 + 0 ≤ 0; omega), (by show 0 + 0 ≤ 0; omega)⟩ (fun r4 M5 n6 hr7 => ?_)
            obtain ⟨rfl, rfl, rfl⟩ := hr7
            refine j_st (st := [.long (lI (lastE w.toInt sl.toInt (ft i).toInt))]) rfl ?_
            refine j_iload X dX5_nextEnd_34 rfl ?_
            refine j_i2l X dX5_nextEnd_36 ?_
            refine j_st (st := [.long (lI ((j : Nat) : Int)), .long (lI (lastE w.toInt sl.toInt (ft i).toInt))]) (by rw [l_nI (show j < 2 ^ 31 by omega)]) ?_
            refine j_aload_n X 0 dX5_nextEnd_37 rfl rfl ?_
            refine j_get X hm rfl iwX5_nextEnd_X5 1 (by decide) lkX5_nextEnd_13 rfl dX5_nextEnd_38 ?_
            refine j_i2l X dX5_nextEnd_41 ?_
            refine j_st (st := [.long (lI sl.toInt), .long (lI ((j : Nat) : Int)), .long (lI (lastE w.toInt sl.toInt (ft i).toInt))]) (by rw [l_of sl]) ?_
            refine j_lmul X dX5_nextEnd_42 ?_
            refine j_st (st := [.long (lI (((j : Nat) : Int) * sl.toInt)), .long (lI (lastE w.toInt sl.toInt (ft i).toInt))]) (by rw [lI_mul]) ?_
            refine j_lsub X dX5_nextEnd_43 ?_
            refine j_st (st := [.long (lI ((lastE w.toInt sl.toInt (ft i).toInt) - (((j : Nat) : Int) * sl.toInt)))]) (by rw [lI_sub]) ?_
            refine j_lstore X dX5_nextEnd_44 (by decide) rfl (L' := [some (.ref m), some (.long (lI b)), none, some (.long (lI (nEin w.toInt sl.toInt (ft i).toInt b j (nE w.toInt sl.toInt ft b i)))), none, some (.int (nI i)), some (.int (nI j)), some (.long (lI ((lastE w.toInt sl.toInt (ft i).toInt) - (((j : Nat) : Int) * sl.toInt)))), none, none]) rfl ?_
            refine j_aload_n X 0 dX5_nextEnd_46 rfl rfl ?_
            refine j_iload X dX5_nextEnd_47 rfl ?_
            refine j_lload X dX5_nextEnd_49 rfl ?_
            refine j_callV X nwSQ_ok (As := [.int (nI i), .long (lI ((lastE w.toInt sl.toInt (ft i).toInt) - (((j : Nat) : Int) * sl.toInt)))]) (rest := []) hm rfl rfl (c_X5_isIn l D hI b0 hm ⟨h1, h2, h3, h4, h5, h6⟩ (j := i) (by omega) ((lastE w.toInt sl.toInt (ft i).toInt) - (((j : Nat) : Int) * sl.toInt)) ⟨by omega, by omega⟩) rfl gX5_nextEnd_X5_isIn ⟨rfl, ddX5_isIn⟩ ⟨Nat.le_of_ble_eq_true rfl, Nat.le_of_ble_eq_true rfl⟩ (Nat.le_of_ble_eq_true rfl) rfl dX5_nextEnd_51 ⟨(by show 0 + 0 ≤ 0; omega), (by show 0 + 0 ≤ 0; omega)⟩ (fun r8 M9 n10 hr11 => ?_)
            obtain ⟨rfl, rfl, rfl⟩ := hr11
            refine j_st (st := [.int (if (ft i).toInt < (lastE w.toInt sl.toInt (ft i).toInt) - (((j : Nat) : Int) * sl.toInt) ∧ (lastE w.toInt sl.toInt (ft i).toInt) - (((j : Nat) : Int) * sl.toInt) - w.toInt ≤ (ft i).toInt then 1 else 0)]) rfl ?_
            refine j_if_eq X 75 dX5_nextEnd_54 (by decide) (fun c12 => ?_) (fun c12 => ?_)
            · skip
              refine j_iconst X dX5_nextEnd_75 (v := 0) (by decide) ?_
              refine j_istore X dX5_nextEnd_76 (by decide) rfl (L' := [some (.ref m), some (.long (lI b)), none, some (.long (lI (nEin w.toInt sl.toInt (ft i).toInt b j (nE w.toInt sl.toInt ft b i)))), none, some (.int (nI i)), some (.int (nI j)), some (.long (lI ((lastE w.toInt sl.toInt (ft i).toInt) - (((j : Nat) : Int) * sl.toInt)))), none, some (.int 0)]) rfl ?_
              refine j_iload X dX5_nextEnd_78 rfl ?_
              refine j_if_eq X 88 dX5_nextEnd_80 (by decide) (fun c13 => ?_) (fun c13 => ?_)
              · skip
                refine j_lload_n X 3 dX5_nextEnd_88 rfl rfl ?_
                refine j_lstore_n X 3 dX5_nextEnd_89 rfl (by decide) rfl (L' := [some (.ref m), some (.long (lI b)), none, some (.long (lI (nEin w.toInt sl.toInt (ft i).toInt b j (nE w.toInt sl.toInt ft b i)))), none, some (.int (nI i)), some (.int (nI j)), some (.long (lI ((lastE w.toInt sl.toInt (ft i).toInt) - (((j : Nat) : Int) * sl.toInt)))), none, some (.int 0)]) rfl ?_
                refine j_iinc X dX5_nextEnd_90 rfl (v := nI (j + 1)) (nI_1 _) (by decide) rfl (L' := [some (.ref m), some (.long (lI b)), none, some (.long (lI (nEin w.toInt sl.toInt (ft i).toInt b j (nE w.toInt sl.toInt ft b i)))), none, some (.int (nI i)), some (.int (nI (j + 1))), some (.long (lI ((lastE w.toInt sl.toInt (ft i).toInt) - (((j : Nat) : Int) * sl.toInt)))), none, some (.int 0)]) rfl ?_
                refine j_goto X 21 dX5_nextEnd_93 (by decide) ?_
                refine j_wk (L2 := [some (.ref m), some (.long (lI b)), none, some (.long (lI (nEin w.toInt sl.toInt (ft i).toInt b j (nE w.toInt sl.toInt ft b i)))), none, some (.int (nI i)), some (.int (nI (j + 1))), none, none, none]) ⟨rfl, rfl, rfl, rfl, rfl, trivial⟩ ?_
                have hi := ihy (j + 1) (by omega)
                unfold nEin at hi
                rw [if_neg (fun q => zo_eq.mp c12 q.1)] at hi
                exact hi
              · skip
                exact absurd rfl c13
            · skip
              refine j_lload X dX5_nextEnd_57 rfl ?_
              refine j_lload_n X 1 dX5_nextEnd_59 rfl rfl ?_
              refine j_lc_le X 75 dX5_nextEnd_60 dX5_nextEnd_61 (by decide) (fun c14 => ?_) (fun c14 => ?_)
              · skip
                refine j_iconst X dX5_nextEnd_75 (v := 0) (by decide) ?_
                refine j_istore X dX5_nextEnd_76 (by decide) rfl (L' := [some (.ref m), some (.long (lI b)), none, some (.long (lI (nEin w.toInt sl.toInt (ft i).toInt b j (nE w.toInt sl.toInt ft b i)))), none, some (.int (nI i)), some (.int (nI j)), some (.long (lI ((lastE w.toInt sl.toInt (ft i).toInt) - (((j : Nat) : Int) * sl.toInt)))), none, some (.int 0)]) rfl ?_
                refine j_iload X dX5_nextEnd_78 rfl ?_
                refine j_if_eq X 88 dX5_nextEnd_80 (by decide) (fun c15 => ?_) (fun c15 => ?_)
                · skip
                  refine j_lload_n X 3 dX5_nextEnd_88 rfl rfl ?_
                  refine j_lstore_n X 3 dX5_nextEnd_89 rfl (by decide) rfl (L' := [some (.ref m), some (.long (lI b)), none, some (.long (lI (nEin w.toInt sl.toInt (ft i).toInt b j (nE w.toInt sl.toInt ft b i)))), none, some (.int (nI i)), some (.int (nI j)), some (.long (lI ((lastE w.toInt sl.toInt (ft i).toInt) - (((j : Nat) : Int) * sl.toInt)))), none, some (.int 0)]) rfl ?_
                  refine j_iinc X dX5_nextEnd_90 rfl (v := nI (j + 1)) (nI_1 _) (by decide) rfl (L' := [some (.ref m), some (.long (lI b)), none, some (.long (lI (nEin w.toInt sl.toInt (ft i).toInt b j (nE w.toInt sl.toInt ft b i)))), none, some (.int (nI i)), some (.int (nI (j + 1))), some (.long (lI ((lastE w.toInt sl.toInt (ft i).toInt) - (((j : Nat) : Int) * sl.toInt)))), none, some (.int 0)]) rfl ?_
                  refine j_goto X 21 dX5_nextEnd_93 (by decide) ?_
                  refine j_wk (L2 := [some (.ref m), some (.long (lI b)), none, some (.long (lI (nEin w.toInt sl.toInt (ft i).toInt b j (nE w.toInt sl.toInt ft b i)))), none, some (.int (nI i)), some (.int (nI (j + 1))), none, none, none]) ⟨rfl, rfl, rfl, rfl, rfl, trivial⟩ ?_
                  have hi := ihy (j + 1) (by omega)
                  unfold nEin at hi
                  rw [if_neg (fun q => Int.not_lt.mpr ((lI_le hbe hbb).mp c14) q.2.1)] at hi
                  exact hi
                · skip
                  exact absurd rfl c15
              · skip
                refine j_lload X dX5_nextEnd_64 rfl ?_
                refine j_lload_n X 3 dX5_nextEnd_66 rfl rfl ?_
                refine j_lc_ge X 75 dX5_nextEnd_67 dX5_nextEnd_68 (by decide) (fun c16 => ?_) (fun c16 => ?_)
                · skip
                  refine j_iconst X dX5_nextEnd_75 (v := 0) (by decide) ?_
                  refine j_istore X dX5_nextEnd_76 (by decide) rfl (L' := [some (.ref m), some (.long (lI b)), none, some (.long (lI (nEin w.toInt sl.toInt (ft i).toInt b j (nE w.toInt sl.toInt ft b i)))), none, some (.int (nI i)), some (.int (nI j)), some (.long (lI ((lastE w.toInt sl.toInt (ft i).toInt) - (((j : Nat) : Int) * sl.toInt)))), none, some (.int 0)]) rfl ?_
                  refine j_iload X dX5_nextEnd_78 rfl ?_
                  refine j_if_eq X 88 dX5_nextEnd_80 (by decide) (fun c17 => ?_) (fun c17 => ?_)
                  · skip
                    refine j_lload_n X 3 dX5_nextEnd_88 rfl rfl ?_
                    refine j_lstore_n X 3 dX5_nextEnd_89 rfl (by decide) rfl (L' := [some (.ref m), some (.long (lI b)), none, some (.long (lI (nEin w.toInt sl.toInt (ft i).toInt b j (nE w.toInt sl.toInt ft b i)))), none, some (.int (nI i)), some (.int (nI j)), some (.long (lI ((lastE w.toInt sl.toInt (ft i).toInt) - (((j : Nat) : Int) * sl.toInt)))), none, some (.int 0)]) rfl ?_
                    refine j_iinc X dX5_nextEnd_90 rfl (v := nI (j + 1)) (nI_1 _) (by decide) rfl (L' := [some (.ref m), some (.long (lI b)), none, some (.long (lI (nEin w.toInt sl.toInt (ft i).toInt b j (nE w.toInt sl.toInt ft b i)))), none, some (.int (nI i)), some (.int (nI (j + 1))), some (.long (lI ((lastE w.toInt sl.toInt (ft i).toInt) - (((j : Nat) : Int) * sl.toInt)))), none, some (.int 0)]) rfl ?_
                    refine j_goto X 21 dX5_nextEnd_93 (by decide) ?_
                    refine j_wk (L2 := [some (.ref m), some (.long (lI b)), none, some (.long (lI (nEin w.toInt sl.toInt (ft i).toInt b j (nE w.toInt sl.toInt ft b i)))), none, some (.int (nI i)), some (.int (nI (j + 1))), none, none, none]) ⟨rfl, rfl, rfl, rfl, rfl, trivial⟩ ?_
                    have hi := ihy (j + 1) (by omega)
                    unfold nEin at hi
                    rw [if_neg (fun q => Int.not_lt.mpr ((lI_le hbb2 hbe).mp c16) q.2.2)] at hi
                    exact hi
                  · skip
                    exact absurd rfl c17
                · skip
                  refine j_iconst X dX5_nextEnd_71 (v := 1) (by decide) ?_
                  refine j_goto X 76 dX5_nextEnd_72 (by decide) ?_
                  refine j_istore X dX5_nextEnd_76 (by decide) rfl (L' := [some (.ref m), some (.long (lI b)), none, some (.long (lI (nEin w.toInt sl.toInt (ft i).toInt b j (nE w.toInt sl.toInt ft b i)))), none, some (.int (nI i)), some (.int (nI j)), some (.long (lI ((lastE w.toInt sl.toInt (ft i).toInt) - (((j : Nat) : Int) * sl.toInt)))), none, some (.int 1)]) rfl ?_
                  refine j_iload X dX5_nextEnd_78 rfl ?_
                  refine j_if_eq X 88 dX5_nextEnd_80 (by decide) (fun c18 => ?_) (fun c18 => ?_)
                  · skip
                    exact absurd c18 (by decide)
                  · skip
                    refine j_lload X dX5_nextEnd_83 rfl ?_
                    refine j_goto X 89 dX5_nextEnd_85 (by decide) ?_
                    refine j_lstore_n X 3 dX5_nextEnd_89 rfl (by decide) rfl (L' := [some (.ref m), some (.long (lI b)), none, some (.long (lI ((lastE w.toInt sl.toInt (ft i).toInt) - (((j : Nat) : Int) * sl.toInt)))), none, some (.int (nI i)), some (.int (nI j)), some (.long (lI ((lastE w.toInt sl.toInt (ft i).toInt) - (((j : Nat) : Int) * sl.toInt)))), none, some (.int 1)]) rfl ?_
                    refine j_iinc X dX5_nextEnd_90 rfl (v := nI (j + 1)) (nI_1 _) (by decide) rfl (L' := [some (.ref m), some (.long (lI b)), none, some (.long (lI ((lastE w.toInt sl.toInt (ft i).toInt) - (((j : Nat) : Int) * sl.toInt)))), none, some (.int (nI i)), some (.int (nI (j + 1))), some (.long (lI ((lastE w.toInt sl.toInt (ft i).toInt) - (((j : Nat) : Int) * sl.toInt)))), none, some (.int 1)]) rfl ?_
                    refine j_goto X 21 dX5_nextEnd_93 (by decide) ?_
                    refine j_wk (L2 := [some (.ref m), some (.long (lI b)), none, some (.long (lI ((lastE w.toInt sl.toInt (ft i).toInt) - (((j : Nat) : Int) * sl.toInt)))), none, some (.int (nI i)), some (.int (nI (j + 1))), none, none, none]) ⟨rfl, rfl, rfl, rfl, rfl, trivial⟩ ?_
                    have hi := ihy (j + 1) (by omega)
                    unfold nEin at hi
                    rw [if_pos ⟨zo_ne.mp c12, Int.not_le.mp (fun q => c14 ((lI_le hbe hbb).mpr q)), Int.not_le.mp (fun q => c16 ((lI_le hbb2 hbe).mpr q))⟩] at hi
                    exact hi
      refine j_iload X dX5_nextEnd_7 rfl ?_
      refine j_aload_n X 0 dX5_nextEnd_9 rfl rfl ?_
      refine j_get X hm rfl iwX5_nextEnd_X5 9 (by decide) lkX5_nextEnd_32 rfl dX5_nextEnd_10 ?_
      refine j_iconst X dX5_nextEnd_13 (v := 0) (by decide) ?_
      refine j_iald X h4 hI (vp_in_nI (n := 0) (by decide) (by decide)) (v := nI a) (hk0) dX5_nextEnd_14 ?_
      refine j_icmp_ge X 102 dX5_nextEnd_15 (by decide) (fun c19 => ?_) (fun c19 => ?_)
      · skip
        exact absurd c19 (nI_ge (show i < a by omega) (by omega))
      · skip
        refine j_iconst X dX5_nextEnd_18 (v := 0) (by decide) ?_
        refine j_istore X dX5_nextEnd_19 (by decide) rfl (L' := [some (.ref m), some (.long (lI b)), none, some (.long (lI (nE w.toInt sl.toInt ft b i))), none, some (.int (nI i)), some (.int 0), none, none, none]) rfl ?_
        refine j_wk (L2 := [some (.ref m), some (.long (lI b)), none, some (.long (lI (nE w.toInt sl.toInt ft b i))), none, some (.int (nI i)), some (.int 0), none, none, none]) ⟨rfl, rfl, rfl, rfl, rfl, trivial⟩ ?_
        exact inner 16 0 (by omega)
  refine j_ldc2 X dX5_nextEnd_0 wdX5_nextEnd_c99 ?_
  refine j_st (st := [.long (lI 4000000000)]) (by rw [l_c4]) ?_
  refine j_lstore_n X 3 dX5_nextEnd_3 rfl (by decide) rfl (L' := [some (.ref m), some (.long (lI b)), none, some (.long (lI 4000000000)), none, none, none, none, none, none]) rfl ?_
  refine j_iconst X dX5_nextEnd_4 (v := 0) (by decide) ?_
  refine j_istore X dX5_nextEnd_5 (by decide) rfl (L' := [some (.ref m), some (.long (lI b)), none, some (.long (lI 4000000000)), none, some (.int 0), none, none, none, none]) rfl ?_
  refine j_wk (L2 := [some (.ref m), some (.long (lI b)), none, some (.long (lI 4000000000)), none, some (.int 0), none, none, none, none]) ⟨rfl, rfl, rfl, rfl, trivial⟩ ?_
  exact outer a 0 (by omega)
set_option maxHeartbeats 800000 in
set_option maxRecDepth 100000 in
theorem c_X5_nextKey (l : Launch) (D : va_G) {ty : jT} {cA : ClassId} (hI : ty[0]? = some (cA, .int)) (b0 : Nat) {M : jM} {n m : Nat} {w sl la sp rm ln qd lt pr tl tk sm my gr rc : Int32} {ft fk fv kp mk qa : Nat → Int32} (hm : M m = some (rfO m w sl la sp rm ln qd lt pr tl tk sm my gr rc)) (hr0 : RA M m ft fk fv kp mk qa) {a : Nat} (hk0 : kp 0 = nI a) (ha : a ≤ 200) (hN : okN w sl) (hT : okts ft a) (e1 b : Int) (he2 : -100000000000 ≤ e1 ∧ e1 ≤ 100000000000) (hb : -100000000000 ≤ b ∧ b ≤ 100000000000) : Ct l D ty vwCl nwSQ b0 yX5_nextKey wsX5_nextKey 1 23 0 0 [.ref m, .long (lI e1), .long (lI b)] M n (j_rd (.long (lI (nK w.toInt ft fk e1 b a))) M n) := by
  have hm : M m = some (.inr (5, [.int w, .int sl, .int la, .int sp, .int rm, .int ln, .ref (m + 1), .ref (m + 2), .ref (m + 3), .ref (m + 4), .ref (m + 5), .ref (m + 6), .int qd, .int lt, .int pr, .int tl, .int tk, .int sm, .int my, .int gr, .int rc])) := hm
  obtain ⟨h1, h2, h3, h4, h5, h6⟩ := id hr0
  have hbb : bigI b := ⟨by omega, by omega⟩
  refine j_start (cc := cX5_nextKey) (maxL := 8) (ret := (some .long)) (by decide) rfl [some (.ref m), some (.long (lI e1)), none, some (.long (lI b)), none, none, none, none] (Nat.le_of_ble_eq_true rfl) rfl ?_
  intro p e s m0 below meth c X hlk hr hnm
  have outer : ∀ (z i : Nat), i + z = a → J p l e { frames := 1, cells := 0, slots := 0, locals := 23 } s m0 ([.ref m, .long (lI e1), .long (lI b)] : List Value).toArray below meth c D ty vwCl b0 (MQ below (j_Q D ty vwCl b0 (j_rd (.long (lI (nK w.toInt ft fk e1 b a))) M n)) ([.ref m, .long (lI e1), .long (lI b)] : List Value).toArray s 0 0 (fun q => b0 ≤ q)) 8 M n 0 0 8 [some (.ref m), some (.long (lI e1)), none, some (.long (lI b)), none, some (.long (lI (nK w.toInt ft fk e1 b i))), none, some (.int (nI i))] [] := by
    intro z
    induction z with
    | zero =>
      intro i hz
      have hia : i = a := by omega
      subst hia
      refine j_iload X dX5_nextKey_8 rfl ?_
      refine j_aload_n X 0 dX5_nextKey_10 rfl rfl ?_
      refine j_get X hm rfl iwX5_nextKey_X5 9 (by decide) lkX5_nextKey_32 rfl dX5_nextKey_11 ?_
      refine j_iconst X dX5_nextKey_14 (v := 0) (by decide) ?_
      refine j_iald X h4 hI (vp_in_nI (n := 0) (by decide) (by decide)) (v := nI i) (hk0) dX5_nextKey_15 ?_
      refine j_icmp_ge X 77 dX5_nextKey_16 (by decide) (fun c20 => ?_) (fun c20 => ?_)
      · skip
        refine j_lload X dX5_nextKey_77 rfl ?_
        exact j_lret X hlk hr (by omega) (by omega) dX5_nextKey_79 ⟨rfl, rfl, rfl⟩
      · skip
        exact absurd (nI_le (Nat.le_refl i) (by omega)) c20
    | succ z ih =>
      intro i hz
      have hnk := nK_rng (w := w.toInt) (ft := ft) (fk := fk) (e := e1) (b := b) (i := i)
      have hki := i_rng (fk i)
      have hbk : bigI (fk i).toInt := ⟨by omega, by omega⟩
      have hbn : bigI (nK w.toInt ft fk e1 b i) := ⟨by omega, by omega⟩
      refine j_iload X dX5_nextKey_8 rfl ?_
      refine j_aload_n X 0 dX5_nextKey_10 rfl rfl ?_
      refine j_get X hm rfl iwX5_nextKey_X5 9 (by decide) lkX5_nextKey_32 rfl dX5_nextKey_11 ?_
      refine j_iconst X dX5_nextKey_14 (v := 0) (by decide) ?_
      refine j_iald X h4 hI (vp_in_nI (n := 0) (by decide) (by decide)) (v := nI a) (hk0) dX5_nextKey_15 ?_
      refine j_icmp_ge X 77 dX5_nextKey_16 (by decide) (fun c21 => ?_) (fun c21 => ?_)
      · skip
        exact absurd c21 (nI_ge (show i < a by omega) (by omega))
      · skip
        refine j_aload_n X 0 dX5_nextKey_19 rfl rfl ?_
        refine j_iload X dX5_nextKey_20 rfl ?_
        refine j_lload_n X 1 dX5_nextKey_22 rfl rfl ?_
        refine j_callV X nwSQ_ok (As := [.int (nI i), .long (lI e1)]) (rest := []) hm rfl rfl (c_X5_isIn l D hI b0 hm ⟨h1, h2, h3, h4, h5, h6⟩ (j := i) (by omega) e1 he2) rfl gX5_nextKey_X5_isIn ⟨rfl, ddX5_isIn⟩ ⟨Nat.le_of_ble_eq_true rfl, Nat.le_of_ble_eq_true rfl⟩ (Nat.le_of_ble_eq_true rfl) rfl dX5_nextKey_23 ⟨(by show 0 + 0 ≤ 0; omega), (by show 0 + 0 ≤ 0; omega)⟩ (fun r22 M23 n24 hr25 => ?_)
        obtain ⟨rfl, rfl, rfl⟩ := hr25
        refine j_st (st := [.int (if (ft i).toInt < e1 ∧ e1 - w.toInt ≤ (ft i).toInt then 1 else 0)]) rfl ?_
        refine j_if_eq X 67 dX5_nextKey_26 (by decide) (fun c26 => ?_) (fun c26 => ?_)
        · skip
          refine j_lload X dX5_nextKey_67 rfl ?_
          refine j_lstore X dX5_nextKey_69 (by decide) rfl (L' := [some (.ref m), some (.long (lI e1)), none, some (.long (lI b)), none, some (.long (lI (nK w.toInt ft fk e1 b i))), none, some (.int (nI i))]) rfl ?_
          refine j_iinc X dX5_nextKey_71 rfl (v := nI (i + 1)) (nI_1 _) (by decide) rfl (L' := [some (.ref m), some (.long (lI e1)), none, some (.long (lI b)), none, some (.long (lI (nK w.toInt ft fk e1 b i))), none, some (.int (nI (i + 1)))]) rfl ?_
          refine j_goto X 8 dX5_nextKey_74 (by decide) ?_
          have hi := ih (i + 1) (by omega)
          rw [nK_succ w.toInt ft fk e1 b i] at hi
          rw [if_neg (fun q => zo_eq.mp c26 q.1)] at hi
          exact hi
        · skip
          refine j_aload_n X 0 dX5_nextKey_29 rfl rfl ?_
          refine j_get X hm rfl iwX5_nextKey_X5 7 (by decide) lkX5_nextKey_26 rfl dX5_nextKey_30 ?_
          refine j_iload X dX5_nextKey_33 rfl ?_
          refine j_iald X h2 hI (vp_in_nI (show i < 400 by omega) (by decide)) (v := fk i) (congrArg fk (nI_clamp (show i < 2 ^ 31 by omega))) dX5_nextKey_35 ?_
          refine j_i2l X dX5_nextKey_36 ?_
          refine j_st (st := [.long (lI (fk i).toInt)]) (by rw [l_of (fk i)]) ?_
          refine j_lload_n X 3 dX5_nextKey_37 rfl rfl ?_
          refine j_lc_le X 67 dX5_nextKey_38 dX5_nextKey_39 (by decide) (fun c27 => ?_) (fun c27 => ?_)
          · skip
            refine j_lload X dX5_nextKey_67 rfl ?_
            refine j_lstore X dX5_nextKey_69 (by decide) rfl (L' := [some (.ref m), some (.long (lI e1)), none, some (.long (lI b)), none, some (.long (lI (nK w.toInt ft fk e1 b i))), none, some (.int (nI i))]) rfl ?_
            refine j_iinc X dX5_nextKey_71 rfl (v := nI (i + 1)) (nI_1 _) (by decide) rfl (L' := [some (.ref m), some (.long (lI e1)), none, some (.long (lI b)), none, some (.long (lI (nK w.toInt ft fk e1 b i))), none, some (.int (nI (i + 1)))]) rfl ?_
            refine j_goto X 8 dX5_nextKey_74 (by decide) ?_
            have hi := ih (i + 1) (by omega)
            rw [nK_succ w.toInt ft fk e1 b i] at hi
            rw [if_neg (fun q => Int.not_lt.mpr ((lI_le hbk hbb).mp c27) q.2.1)] at hi
            exact hi
          · skip
            refine j_aload_n X 0 dX5_nextKey_42 rfl rfl ?_
            refine j_get X hm rfl iwX5_nextKey_X5 7 (by decide) lkX5_nextKey_26 rfl dX5_nextKey_43 ?_
            refine j_iload X dX5_nextKey_46 rfl ?_
            refine j_iald X h2 hI (vp_in_nI (show i < 400 by omega) (by decide)) (v := fk i) (congrArg fk (nI_clamp (show i < 2 ^ 31 by omega))) dX5_nextKey_48 ?_
            refine j_i2l X dX5_nextKey_49 ?_
            refine j_st (st := [.long (lI (fk i).toInt)]) (by rw [l_of (fk i)]) ?_
            refine j_lload X dX5_nextKey_50 rfl ?_
            refine j_lc_ge X 67 dX5_nextKey_52 dX5_nextKey_53 (by decide) (fun c28 => ?_) (fun c28 => ?_)
            · skip
              refine j_lload X dX5_nextKey_67 rfl ?_
              refine j_lstore X dX5_nextKey_69 (by decide) rfl (L' := [some (.ref m), some (.long (lI e1)), none, some (.long (lI b)), none, some (.long (lI (nK w.toInt ft fk e1 b i))), none, some (.int (nI i))]) rfl ?_
              refine j_iinc X dX5_nextKey_71 rfl (v := nI (i + 1)) (nI_1 _) (by decide) rfl (L' := [some (.ref m), some (.long (lI e1)), none, some (.long (lI b)), none, some (.long (lI (nK w.toInt ft fk e1 b i))), none, some (.int (nI (i + 1)))]) rfl ?_
              refine j_goto X 8 dX5_nextKey_74 (by decide) ?_
              have hi := ih (i + 1) (by omega)
              rw [nK_succ w.toInt ft fk e1 b i] at hi
              rw [if_neg (fun q => Int.not_lt.mpr ((lI_le hbn hbk).mp c28) q.2.2)] at hi
              exact hi
            · skip
              refine j_aload_n X 0 dX5_nextKey_56 rfl rfl ?_
              refine j_get X hm rfl iwX5_nextKey_X5 7 (by decide) lkX5_nextKey_26 rfl dX5_nextKey_57 ?_
              refine j_iload X dX5_nextKey_60 rfl ?_
              refine j_iald X h2 hI (vp_in_nI (show i < 400 by omega) (by decide)) (v := fk i) (congrArg fk (nI_clamp (show i < 2 ^ 31 by omega))) dX5_nextKey_62 ?_
              refine j_i2l X dX5_nextKey_63 ?_
              refine j_st (st := [.long (lI (fk i).toInt)]) (by rw [l_of (fk i)]) ?_
              refine j_goto X 69 dX5_nextKey_64 (by decide) ?_
              refine j_lstore X dX5_nextKey_69 (by decide) rfl (L' := [some (.ref m), some (.long (lI e1)), none, some (.long (lI b)), none, some (.long (lI (fk i).toInt)), none, some (.int (nI i))]) rfl ?_
              refine j_iinc X dX5_nextKey_71 rfl (v := nI (i + 1)) (nI_1 _) (by decide) rfl (L' := [some (.ref m), some (.long (lI e1)), none, some (.long (lI b)), none, some (.long (lI (fk i).toInt)), none, some (.int (nI (i + 1)))]) rfl ?_
              refine j_goto X 8 dX5_nextKey_74 (by decide) ?_
              have hi := ih (i + 1) (by omega)
              rw [nK_succ w.toInt ft fk e1 b i] at hi
              rw [if_pos ⟨zo_ne.mp c26, Int.not_le.mp (fun q => c27 ((lI_le hbk hbb).mpr q)), Int.not_le.mp (fun q => c28 ((lI_le hbn hbk).mpr q))⟩] at hi
              exact hi
  refine j_ldc2 X dX5_nextKey_0 wdX5_nextKey_c99 ?_
  refine j_st (st := [.long (lI 4000000000)]) (by rw [l_c4]) ?_
  refine j_lstore X dX5_nextKey_3 (by decide) rfl (L' := [some (.ref m), some (.long (lI e1)), none, some (.long (lI b)), none, some (.long (lI 4000000000)), none, none]) rfl ?_
  refine j_iconst X dX5_nextKey_5 (v := 0) (by decide) ?_
  refine j_istore X dX5_nextKey_6 (by decide) rfl (L' := [some (.ref m), some (.long (lI e1)), none, some (.long (lI b)), none, some (.long (lI 4000000000)), none, some (.int 0)]) rfl ?_
  exact outer a 0 (by omega)
set_option maxHeartbeats 800000 in
set_option maxRecDepth 100000 in
theorem c_X5_gather (l : Launch) (D : va_G) {ty : jT} {cA : ClassId} (hI : ty[0]? = some (cA, .int)) (b0 : Nat) {M : jM} {n m : Nat} {w sl la sp rm ln qd lt pr tl tk sm my gr rc : Int32} {ft fk fv kp mk qa : Nat → Int32} (hm : M m = some (rfO m w sl la sp rm ln qd lt pr tl tk sm my gr rc)) (hr0 : RA M m ft fk fv kp mk qa) {a : Nat} (hk0 : kp 0 = nI a) (ha : a ≤ 200) (hN : okN w sl) (hT : okts ft a) (e1 : Int) (he2 : -100000000000 ≤ e1 ∧ e1 ≤ 100000000000) (k1 : Int32) : Ct l D ty vwCl nwSQ b0 yX5_gather wsX5_gather 1 23 0 0 [.ref m, .long (lI e1), .int k1] M n (fun r M' n' => r = none ∧ n = n' ∧ M' m = some (rfO m w sl la sp rm ln qd lt pr tl tk (gR w.toInt ft fk fv e1 k1 a).1 (gR w.toInt ft fk fv e1 k1 a).2.1 (gR w.toInt ft fk fv e1 k1 a).2.2 rc) ∧ ∀ q, q ≠ m → M' q = M q) := by
  have hm : M m = some (.inr (5, [.int w, .int sl, .int la, .int sp, .int rm, .int ln, .ref (m + 1), .ref (m + 2), .ref (m + 3), .ref (m + 4), .ref (m + 5), .ref (m + 6), .int qd, .int lt, .int pr, .int tl, .int tk, .int sm, .int my, .int gr, .int rc])) := hm
  obtain ⟨h1, h2, h3, h4, h5, h6⟩ := id hr0
  refine j_start (cc := cX5_gather) (maxL := 5) (ret := none) (by decide) rfl [some (.ref m), some (.long (lI e1)), none, some (.int k1), none] (Nat.le_of_ble_eq_true rfl) rfl ?_
  intro p e s m0 below meth c X hlk hr hnm
  have outer : ∀ (z i : Nat) (Mi : jM), i + z = a → Mi m = some (rfO m w sl la sp rm ln qd lt pr tl tk (gR w.toInt ft fk fv e1 k1 i).1 (gR w.toInt ft fk fv e1 k1 i).2.1 (gR w.toInt ft fk fv e1 k1 i).2.2 rc) → (∀ q, q ≠ m → Mi q = M q) → J p l e { frames := 1, cells := 0, slots := 0, locals := 23 } s m0 ([.ref m, .long (lI e1), .int k1] : List Value).toArray below meth c D ty vwCl b0 (MQ below (j_Q D ty vwCl b0 (fun r M' n' => r = none ∧ n = n' ∧ M' m = some (rfO m w sl la sp rm ln qd lt pr tl tk (gR w.toInt ft fk fv e1 k1 a).1 (gR w.toInt ft fk fv e1 k1 a).2.1 (gR w.toInt ft fk fv e1 k1 a).2.2 rc) ∧ ∀ q, q ≠ m → M' q = M q)) ([.ref m, .long (lI e1), .int k1] : List Value).toArray s 0 0 (fun q => b0 ≤ q)) 5 Mi n 0 0 18 [some (.ref m), some (.long (lI e1)), none, some (.int k1), some (.int (nI i))] [] := by
    intro z
    induction z with
    | zero =>
      intro i Mi hz hmi hfr
      have hia : i = a := by omega
      subst hia
      have hmi : Mi m = some (.inr (5, [.int w, .int sl, .int la, .int sp, .int rm, .int ln, .ref (m + 1), .ref (m + 2), .ref (m + 3), .ref (m + 4), .ref (m + 5), .ref (m + 6), .int qd, .int lt, .int pr, .int tl, .int tk, .int ((gR w.toInt ft fk fv e1 k1 i).1), .int ((gR w.toInt ft fk fv e1 k1 i).2.1), .int ((gR w.toInt ft fk fv e1 k1 i).2.2), .int rc])) := hmi
      have h1 := (hfr (m + 1) (by omega)).trans h1
      have h2 := (hfr (m + 2) (by omega)).trans h2
      have h3 := (hfr (m + 3) (by omega)).trans h3
      have h4 := (hfr (m + 4) (by omega)).trans h4
      have h5 := (hfr (m + 5) (by omega)).trans h5
      have h6 := (hfr (m + 6) (by omega)).trans h6
      refine j_iload X dX5_gather_18 rfl ?_
      refine j_aload_n X 0 dX5_gather_20 rfl rfl ?_
      refine j_get X hmi rfl iwX5_gather_X5 9 (by decide) lkX5_gather_32 rfl dX5_gather_21 ?_
      refine j_iconst X dX5_gather_24 (v := 0) (by decide) ?_
      refine j_iald X h4 hI (vp_in_nI (n := 0) (by decide) (by decide)) (v := nI i) (hk0) dX5_gather_25 ?_
      refine j_icmp_ge X 121 dX5_gather_26 (by decide) (fun c29 => ?_) (fun c29 => ?_)
      · skip
        exact j_vret X hlk hr (by omega) (by omega) dX5_gather_121 ⟨rfl, rfl, hmi, hfr⟩
      · skip
        exact absurd (nI_le (Nat.le_refl i) (by omega)) c29
    | succ z ih =>
      intro i Mi hz hmi hfr
      have hmi : Mi m = some (.inr (5, [.int w, .int sl, .int la, .int sp, .int rm, .int ln, .ref (m + 1), .ref (m + 2), .ref (m + 3), .ref (m + 4), .ref (m + 5), .ref (m + 6), .int qd, .int lt, .int pr, .int tl, .int tk, .int ((gR w.toInt ft fk fv e1 k1 i).1), .int ((gR w.toInt ft fk fv e1 k1 i).2.1), .int ((gR w.toInt ft fk fv e1 k1 i).2.2), .int rc])) := hmi
      have h1 := (hfr (m + 1) (by omega)).trans h1
      have h2 := (hfr (m + 2) (by omega)).trans h2
      have h3 := (hfr (m + 3) (by omega)).trans h3
      have h4 := (hfr (m + 4) (by omega)).trans h4
      have h5 := (hfr (m + 5) (by omega)).trans h5
      have h6 := (hfr (m + 6) (by omega)).trans h6
      refine j_iload X dX5_gather_18 rfl ?_
      refine j_aload_n X 0 dX5_gather_20 rfl rfl ?_
      refine j_get X hmi rfl iwX5_gather_X5 9 (by decide) lkX5_gather_32 rfl dX5_gather_21 ?_
      refine j_iconst X dX5_gather_24 (v := 0) (by decide) ?_
      refine j_iald X h4 hI (vp_in_nI (n := 0) (by decide) (by decide)) (v := nI a) (hk0) dX5_gather_25 ?_
      refine j_icmp_ge X 121 dX5_gather_26 (by decide) (fun c30 => ?_) (fun c30 => ?_)
      · skip
        exact absurd c30 (nI_ge (show i < a by omega) (by omega))
      · skip
        refine j_aload_n X 0 dX5_gather_29 rfl rfl ?_
        refine j_iload X dX5_gather_30 rfl ?_
        refine j_lload_n X 1 dX5_gather_32 rfl rfl ?_
        refine j_callV X nwSQ_ok (As := [.int (nI i), .long (lI e1)]) (rest := []) hmi rfl rfl (c_X5_isIn l D hI b0 hmi ⟨h1, h2, h3, h4, h5, h6⟩ (j := i) (by omega) e1 he2) rfl gX5_gather_X5_isIn ⟨rfl, ddX5_isIn⟩ ⟨Nat.le_of_ble_eq_true rfl, Nat.le_of_ble_eq_true rfl⟩ (Nat.le_of_ble_eq_true rfl) rfl dX5_gather_33 ⟨(by show 0 + 0 ≤ 0; omega), (by show 0 + 0 ≤ 0; omega)⟩ (fun r31 M32 n33 hr34 => ?_)
        obtain ⟨rfl, rfl, rfl⟩ := hr34
        refine j_st (st := [.int (if (ft i).toInt < e1 ∧ e1 - w.toInt ≤ (ft i).toInt then 1 else 0)]) rfl ?_
        refine j_if_eq X 115 dX5_gather_36 (by decide) (fun c35 => ?_) (fun c35 => ?_)
        · skip
          refine j_iinc X dX5_gather_115 rfl (v := nI (i + 1)) (nI_1 _) (by decide) rfl (L' := [some (.ref m), some (.long (lI e1)), none, some (.int k1), some (.int (nI (i + 1)))]) rfl ?_
          refine j_goto X 18 dX5_gather_118 (by decide) ?_
          have hi := ih (i + 1)
          rw [gR_succ w.toInt ft fk fv e1 k1 i] at hi
          rw [if_neg (fun q => zo_eq.mp c35 q.1)] at hi
          exact hi Mi (by omega) hmi hfr
        · skip
          refine j_aload_n X 0 dX5_gather_39 rfl rfl ?_
          refine j_get X hmi rfl iwX5_gather_X5 7 (by decide) lkX5_gather_26 rfl dX5_gather_40 ?_
          refine j_iload X dX5_gather_43 rfl ?_
          refine j_iald X h2 hI (vp_in_nI (show i < 400 by omega) (by decide)) (v := fk i) (congrArg fk (nI_clamp (show i < 2 ^ 31 by omega))) dX5_gather_45 ?_
          refine j_iload_n X 3 dX5_gather_46 rfl rfl ?_
          refine j_icmp_ne X 115 dX5_gather_47 (by decide) (fun c36 => ?_) (fun c36 => ?_)
          · skip
            refine j_iinc X dX5_gather_115 rfl (v := nI (i + 1)) (nI_1 _) (by decide) rfl (L' := [some (.ref m), some (.long (lI e1)), none, some (.int k1), some (.int (nI (i + 1)))]) rfl ?_
            refine j_goto X 18 dX5_gather_118 (by decide) ?_
            have hi := ih (i + 1)
            rw [gR_succ w.toInt ft fk fv e1 k1 i] at hi
            rw [if_neg (fun q => c36 q.2)] at hi
            exact hi Mi (by omega) hmi hfr
          · skip
            refine j_aload_n X 0 dX5_gather_50 rfl rfl ?_
            refine j_aload_n X 0 dX5_gather_51 rfl rfl ?_
            refine j_get X hmi rfl iwX5_gather_X5 18 (by decide) lkX5_gather_112 rfl dX5_gather_52 ?_
            refine j_if_eq X 72 dX5_gather_55 (by decide) (fun c37 => ?_) (fun c37 => ?_)
            · skip
              refine j_aload_n X 0 dX5_gather_72 rfl rfl ?_
              refine j_get X hmi rfl iwX5_gather_X5 8 (by decide) lkX5_gather_29 rfl dX5_gather_73 ?_
              refine j_iload X dX5_gather_76 rfl ?_
              refine j_iald X h3 hI (vp_in_nI (show i < 400 by omega) (by decide)) (v := fv i) (congrArg fv (nI_clamp (show i < 2 ^ 31 by omega))) dX5_gather_78 ?_
              refine j_goto X 86 dX5_gather_79 (by decide) ?_
              refine j_put X hmi rfl iwX5_gather_X5 tyX5 tyX5_ok nmX5 19 (by decide) lkX5_gather_115 rfl rfl rfl (Nat.le_of_ble_eq_true rfl) (fs' := [.int w, .int sl, .int la, .int sp, .int rm, .int ln, .ref (m + 1), .ref (m + 2), .ref (m + 3), .ref (m + 4), .ref (m + 5), .ref (m + 6), .int qd, .int lt, .int pr, .int tl, .int tk, .int ((gR w.toInt ft fk fv e1 k1 i).1), .int ((gR w.toInt ft fk fv e1 k1 i).2.1), .int (fv i), .int rc]) rfl dX5_gather_86 ?_
              generalize eM38 : j_up Mi m (.inr (5, [.int w, .int sl, .int la, .int sp, .int rm, .int ln, .ref (m + 1), .ref (m + 2), .ref (m + 3), .ref (m + 4), .ref (m + 5), .ref (m + 6), .int qd, .int lt, .int pr, .int tl, .int tk, .int ((gR w.toInt ft fk fv e1 k1 i).1), .int ((gR w.toInt ft fk fv e1 k1 i).2.1), .int (fv i), .int rc])) = M38
              have h40 : M38 (m + 1) = some (.inl (0, 400, .inl ft)) := by rw [← eM38, j_up_ne _ _ (by omega)]; exact h1
              have h41 : M38 (m + 2) = some (.inl (0, 400, .inl fk)) := by rw [← eM38, j_up_ne _ _ (by omega)]; exact h2
              have h42 : M38 (m + 3) = some (.inl (0, 400, .inl fv)) := by rw [← eM38, j_up_ne _ _ (by omega)]; exact h3
              have h43 : M38 (m + 4) = some (.inl (0, 2, .inl kp)) := by rw [← eM38, j_up_ne _ _ (by omega)]; exact h4
              have h44 : M38 (m + 5) = some (.inl (0, 2, .inl mk)) := by rw [← eM38, j_up_ne _ _ (by omega)]; exact h5
              have h45 : M38 (m + 6) = some (.inl (0, 2400, .inl qa)) := by rw [← eM38, j_up_ne _ _ (by omega)]; exact h6
              have h46 : M38 m = some (.inr (5, [.int w, .int sl, .int la, .int sp, .int rm, .int ln, .ref (m + 1), .ref (m + 2), .ref (m + 3), .ref (m + 4), .ref (m + 5), .ref (m + 6), .int qd, .int lt, .int pr, .int tl, .int tk, .int ((gR w.toInt ft fk fv e1 k1 i).1), .int ((gR w.toInt ft fk fv e1 k1 i).2.1), .int (fv i), .int rc])) := by rw [← eM38]; exact j_up_self _ _ _
              refine j_aload_n X 0 dX5_gather_89 rfl rfl ?_
              refine j_dup X dX5_gather_90 rfl ?_
              refine j_get X h46 rfl iwX5_gather_X5 17 (by decide) lkX5_gather_109 rfl dX5_gather_91 ?_
              refine j_aload_n X 0 dX5_gather_94 rfl rfl ?_
              refine j_get X h46 rfl iwX5_gather_X5 8 (by decide) lkX5_gather_29 rfl dX5_gather_95 ?_
              refine j_iload X dX5_gather_98 rfl ?_
              refine j_iald X h42 hI (vp_in_nI (show i < 400 by omega) (by decide)) (v := fv i) (congrArg fv (nI_clamp (show i < 2 ^ 31 by omega))) dX5_gather_100 ?_
              refine j_iadd X dX5_gather_101 ?_
              refine j_put X h46 rfl iwX5_gather_X5 tyX5 tyX5_ok nmX5 17 (by decide) lkX5_gather_109 rfl rfl rfl (Nat.le_of_ble_eq_true rfl) (fs' := [.int w, .int sl, .int la, .int sp, .int rm, .int ln, .ref (m + 1), .ref (m + 2), .ref (m + 3), .ref (m + 4), .ref (m + 5), .ref (m + 6), .int qd, .int lt, .int pr, .int tl, .int tk, .int (((gR w.toInt ft fk fv e1 k1 i).1) + (fv i)), .int ((gR w.toInt ft fk fv e1 k1 i).2.1), .int (fv i), .int rc]) rfl dX5_gather_102 ?_
              generalize eM47 : j_up M38 m (.inr (5, [.int w, .int sl, .int la, .int sp, .int rm, .int ln, .ref (m + 1), .ref (m + 2), .ref (m + 3), .ref (m + 4), .ref (m + 5), .ref (m + 6), .int qd, .int lt, .int pr, .int tl, .int tk, .int (((gR w.toInt ft fk fv e1 k1 i).1) + (fv i)), .int ((gR w.toInt ft fk fv e1 k1 i).2.1), .int (fv i), .int rc])) = M47
              have h48 : M47 (m + 1) = some (.inl (0, 400, .inl ft)) := by rw [← eM47, j_up_ne _ _ (by omega)]; exact h40
              have h49 : M47 (m + 2) = some (.inl (0, 400, .inl fk)) := by rw [← eM47, j_up_ne _ _ (by omega)]; exact h41
              have h50 : M47 (m + 3) = some (.inl (0, 400, .inl fv)) := by rw [← eM47, j_up_ne _ _ (by omega)]; exact h42
              have h51 : M47 (m + 4) = some (.inl (0, 2, .inl kp)) := by rw [← eM47, j_up_ne _ _ (by omega)]; exact h43
              have h52 : M47 (m + 5) = some (.inl (0, 2, .inl mk)) := by rw [← eM47, j_up_ne _ _ (by omega)]; exact h44
              have h53 : M47 (m + 6) = some (.inl (0, 2400, .inl qa)) := by rw [← eM47, j_up_ne _ _ (by omega)]; exact h45
              have h55 : M47 m = some (.inr (5, [.int w, .int sl, .int la, .int sp, .int rm, .int ln, .ref (m + 1), .ref (m + 2), .ref (m + 3), .ref (m + 4), .ref (m + 5), .ref (m + 6), .int qd, .int lt, .int pr, .int tl, .int tk, .int (((gR w.toInt ft fk fv e1 k1 i).1) + (fv i)), .int ((gR w.toInt ft fk fv e1 k1 i).2.1), .int (fv i), .int rc])) := by rw [← eM47]; exact j_up_self _ _ _
              refine j_aload_n X 0 dX5_gather_105 rfl rfl ?_
              refine j_dup X dX5_gather_106 rfl ?_
              refine j_get X h55 rfl iwX5_gather_X5 18 (by decide) lkX5_gather_112 rfl dX5_gather_107 ?_
              refine j_iconst X dX5_gather_110 (v := 1) (by decide) ?_
              refine j_iadd X dX5_gather_111 ?_
              refine j_put X h55 rfl iwX5_gather_X5 tyX5 tyX5_ok nmX5 18 (by decide) lkX5_gather_112 rfl rfl rfl (Nat.le_of_ble_eq_true rfl) (fs' := [.int w, .int sl, .int la, .int sp, .int rm, .int ln, .ref (m + 1), .ref (m + 2), .ref (m + 3), .ref (m + 4), .ref (m + 5), .ref (m + 6), .int qd, .int lt, .int pr, .int tl, .int tk, .int (((gR w.toInt ft fk fv e1 k1 i).1) + (fv i)), .int (((gR w.toInt ft fk fv e1 k1 i).2.1) + 1), .int (fv i), .int rc]) rfl dX5_gather_112 ?_
              generalize eM56 : j_up M47 m (.inr (5, [.int w, .int sl, .int la, .int sp, .int rm, .int ln, .ref (m + 1), .ref (m + 2), .ref (m + 3), .ref (m + 4), .ref (m + 5), .ref (m + 6), .int qd, .int lt, .int pr, .int tl, .int tk, .int (((gR w.toInt ft fk fv e1 k1 i).1) + (fv i)), .int (((gR w.toInt ft fk fv e1 k1 i).2.1) + 1), .int (fv i), .int rc])) = M56
              have h57 : M56 (m + 1) = some (.inl (0, 400, .inl ft)) := by rw [← eM56, j_up_ne _ _ (by omega)]; exact h48
              have h58 : M56 (m + 2) = some (.inl (0, 400, .inl fk)) := by rw [← eM56, j_up_ne _ _ (by omega)]; exact h49
              have h59 : M56 (m + 3) = some (.inl (0, 400, .inl fv)) := by rw [← eM56, j_up_ne _ _ (by omega)]; exact h50
              have h60 : M56 (m + 4) = some (.inl (0, 2, .inl kp)) := by rw [← eM56, j_up_ne _ _ (by omega)]; exact h51
              have h61 : M56 (m + 5) = some (.inl (0, 2, .inl mk)) := by rw [← eM56, j_up_ne _ _ (by omega)]; exact h52
              have h62 : M56 (m + 6) = some (.inl (0, 2400, .inl qa)) := by rw [← eM56, j_up_ne _ _ (by omega)]; exact h53
              have h64 : M56 m = some (.inr (5, [.int w, .int sl, .int la, .int sp, .int rm, .int ln, .ref (m + 1), .ref (m + 2), .ref (m + 3), .ref (m + 4), .ref (m + 5), .ref (m + 6), .int qd, .int lt, .int pr, .int tl, .int tk, .int (((gR w.toInt ft fk fv e1 k1 i).1) + (fv i)), .int (((gR w.toInt ft fk fv e1 k1 i).2.1) + 1), .int (fv i), .int rc])) := by rw [← eM56]; exact j_up_self _ _ _
              refine j_iinc X dX5_gather_115 rfl (v := nI (i + 1)) (nI_1 _) (by decide) rfl (L' := [some (.ref m), some (.long (lI e1)), none, some (.int k1), some (.int (nI (i + 1)))]) rfl ?_
              refine j_goto X 18 dX5_gather_118 (by decide) ?_
              have hi := ih (i + 1)
              rw [gR_succ w.toInt ft fk fv e1 k1 i] at hi
              rw [if_pos ⟨zo_ne.mp c35, c36⟩] at hi
              rw [if_pos (Or.inl c37)] at hi
              exact hi M56 (by omega) h64 (fun q hq => by rw [← eM56, j_up_ne _ _ hq, ← eM47, j_up_ne _ _ hq, ← eM38, j_up_ne _ _ hq]; exact hfr q hq)
            · skip
              refine j_aload_n X 0 dX5_gather_58 rfl rfl ?_
              refine j_get X hmi rfl iwX5_gather_X5 8 (by decide) lkX5_gather_29 rfl dX5_gather_59 ?_
              refine j_iload X dX5_gather_62 rfl ?_
              refine j_iald X h3 hI (vp_in_nI (show i < 400 by omega) (by decide)) (v := fv i) (congrArg fv (nI_clamp (show i < 2 ^ 31 by omega))) dX5_gather_64 ?_
              refine j_aload_n X 0 dX5_gather_65 rfl rfl ?_
              refine j_get X hmi rfl iwX5_gather_X5 19 (by decide) lkX5_gather_115 rfl dX5_gather_66 ?_
              refine j_icmp_le X 82 dX5_gather_69 (by decide) (fun c65 => ?_) (fun c65 => ?_)
              · skip
                refine j_aload_n X 0 dX5_gather_82 rfl rfl ?_
                refine j_get X hmi rfl iwX5_gather_X5 19 (by decide) lkX5_gather_115 rfl dX5_gather_83 ?_
                refine j_put X hmi rfl iwX5_gather_X5 tyX5 tyX5_ok nmX5 19 (by decide) lkX5_gather_115 rfl rfl rfl (Nat.le_of_ble_eq_true rfl) (fs' := [.int w, .int sl, .int la, .int sp, .int rm, .int ln, .ref (m + 1), .ref (m + 2), .ref (m + 3), .ref (m + 4), .ref (m + 5), .ref (m + 6), .int qd, .int lt, .int pr, .int tl, .int tk, .int ((gR w.toInt ft fk fv e1 k1 i).1), .int ((gR w.toInt ft fk fv e1 k1 i).2.1), .int ((gR w.toInt ft fk fv e1 k1 i).2.2), .int rc]) rfl dX5_gather_86 ?_
                generalize eM66 : j_up Mi m (.inr (5, [.int w, .int sl, .int la, .int sp, .int rm, .int ln, .ref (m + 1), .ref (m + 2), .ref (m + 3), .ref (m + 4), .ref (m + 5), .ref (m + 6), .int qd, .int lt, .int pr, .int tl, .int tk, .int ((gR w.toInt ft fk fv e1 k1 i).1), .int ((gR w.toInt ft fk fv e1 k1 i).2.1), .int ((gR w.toInt ft fk fv e1 k1 i).2.2), .int rc])) = M66
                have h68 : M66 (m + 1) = some (.inl (0, 400, .inl ft)) := by rw [← eM66, j_up_ne _ _ (by omega)]; exact h1
                have h69 : M66 (m + 2) = some (.inl (0, 400, .inl fk)) := by rw [← eM66, j_up_ne _ _ (by omega)]; exact h2
                have h70 : M66 (m + 3) = some (.inl (0, 400, .inl fv)) := by rw [← eM66, j_up_ne _ _ (by omega)]; exact h3
                have h71 : M66 (m + 4) = some (.inl (0, 2, .inl kp)) := by rw [← eM66, j_up_ne _ _ (by omega)]; exact h4
                have h72 : M66 (m + 5) = some (.inl (0, 2, .inl mk)) := by rw [← eM66, j_up_ne _ _ (by omega)]; exact h5
                have h73 : M66 (m + 6) = some (.inl (0, 2400, .inl qa)) := by rw [← eM66, j_up_ne _ _ (by omega)]; exact h6
                have h74 : M66 m = some (.inr (5, [.int w, .int sl, .int la, .int sp, .int rm, .int ln, .ref (m + 1), .ref (m + 2), .ref (m + 3), .ref (m + 4), .ref (m + 5), .ref (m + 6), .int qd, .int lt, .int pr, .int tl, .int tk, .int ((gR w.toInt ft fk fv e1 k1 i).1), .int ((gR w.toInt ft fk fv e1 k1 i).2.1), .int ((gR w.toInt ft fk fv e1 k1 i).2.2), .int rc])) := by rw [← eM66]; exact j_up_self _ _ _
                refine j_aload_n X 0 dX5_gather_89 rfl rfl ?_
                refine j_dup X dX5_gather_90 rfl ?_
                refine j_get X h74 rfl iwX5_gather_X5 17 (by decide) lkX5_gather_109 rfl dX5_gather_91 ?_
                refine j_aload_n X 0 dX5_gather_94 rfl rfl ?_
                refine j_get X h74 rfl iwX5_gather_X5 8 (by decide) lkX5_gather_29 rfl dX5_gather_95 ?_
                refine j_iload X dX5_gather_98 rfl ?_
                refine j_iald X h70 hI (vp_in_nI (show i < 400 by omega) (by decide)) (v := fv i) (congrArg fv (nI_clamp (show i < 2 ^ 31 by omega))) dX5_gather_100 ?_
                refine j_iadd X dX5_gather_101 ?_
                refine j_put X h74 rfl iwX5_gather_X5 tyX5 tyX5_ok nmX5 17 (by decide) lkX5_gather_109 rfl rfl rfl (Nat.le_of_ble_eq_true rfl) (fs' := [.int w, .int sl, .int la, .int sp, .int rm, .int ln, .ref (m + 1), .ref (m + 2), .ref (m + 3), .ref (m + 4), .ref (m + 5), .ref (m + 6), .int qd, .int lt, .int pr, .int tl, .int tk, .int (((gR w.toInt ft fk fv e1 k1 i).1) + (fv i)), .int ((gR w.toInt ft fk fv e1 k1 i).2.1), .int ((gR w.toInt ft fk fv e1 k1 i).2.2), .int rc]) rfl dX5_gather_102 ?_
                generalize eM75 : j_up M66 m (.inr (5, [.int w, .int sl, .int la, .int sp, .int rm, .int ln, .ref (m + 1), .ref (m + 2), .ref (m + 3), .ref (m + 4), .ref (m + 5), .ref (m + 6), .int qd, .int lt, .int pr, .int tl, .int tk, .int (((gR w.toInt ft fk fv e1 k1 i).1) + (fv i)), .int ((gR w.toInt ft fk fv e1 k1 i).2.1), .int ((gR w.toInt ft fk fv e1 k1 i).2.2), .int rc])) = M75
                have h76 : M75 (m + 1) = some (.inl (0, 400, .inl ft)) := by rw [← eM75, j_up_ne _ _ (by omega)]; exact h68
                have h77 : M75 (m + 2) = some (.inl (0, 400, .inl fk)) := by rw [← eM75, j_up_ne _ _ (by omega)]; exact h69
                have h78 : M75 (m + 3) = some (.inl (0, 400, .inl fv)) := by rw [← eM75, j_up_ne _ _ (by omega)]; exact h70
                have h79 : M75 (m + 4) = some (.inl (0, 2, .inl kp)) := by rw [← eM75, j_up_ne _ _ (by omega)]; exact h71
                have h80 : M75 (m + 5) = some (.inl (0, 2, .inl mk)) := by rw [← eM75, j_up_ne _ _ (by omega)]; exact h72
                have h81 : M75 (m + 6) = some (.inl (0, 2400, .inl qa)) := by rw [← eM75, j_up_ne _ _ (by omega)]; exact h73
                have h83 : M75 m = some (.inr (5, [.int w, .int sl, .int la, .int sp, .int rm, .int ln, .ref (m + 1), .ref (m + 2), .ref (m + 3), .ref (m + 4), .ref (m + 5), .ref (m + 6), .int qd, .int lt, .int pr, .int tl, .int tk, .int (((gR w.toInt ft fk fv e1 k1 i).1) + (fv i)), .int ((gR w.toInt ft fk fv e1 k1 i).2.1), .int ((gR w.toInt ft fk fv e1 k1 i).2.2), .int rc])) := by rw [← eM75]; exact j_up_self _ _ _
                refine j_aload_n X 0 dX5_gather_105 rfl rfl ?_
                refine j_dup X dX5_gather_106 rfl ?_
                refine j_get X h83 rfl iwX5_gather_X5 18 (by decide) lkX5_gather_112 rfl dX5_gather_107 ?_
                refine j_iconst X dX5_gather_110 (v := 1) (by decide) ?_
                refine j_iadd X dX5_gather_111 ?_
                refine j_put X h83 rfl iwX5_gather_X5 tyX5 tyX5_ok nmX5 18 (by decide) lkX5_gather_112 rfl rfl rfl (Nat.le_of_ble_eq_true rfl) (fs' := [.int w, .int sl, .int la, .int sp, .int rm, .int ln, .ref (m + 1), .ref (m + 2), .ref (m + 3), .ref (m + 4), .ref (m + 5), .ref (m + 6), .int qd, .int lt, .int pr, .int tl, .int tk, .int (((gR w.toInt ft fk fv e1 k1 i).1) + (fv i)), .int (((gR w.toInt ft fk fv e1 k1 i).2.1) + 1), .int ((gR w.toInt ft fk fv e1 k1 i).2.2), .int rc]) rfl dX5_gather_112 ?_
                generalize eM84 : j_up M75 m (.inr (5, [.int w, .int sl, .int la, .int sp, .int rm, .int ln, .ref (m + 1), .ref (m + 2), .ref (m + 3), .ref (m + 4), .ref (m + 5), .ref (m + 6), .int qd, .int lt, .int pr, .int tl, .int tk, .int (((gR w.toInt ft fk fv e1 k1 i).1) + (fv i)), .int (((gR w.toInt ft fk fv e1 k1 i).2.1) + 1), .int ((gR w.toInt ft fk fv e1 k1 i).2.2), .int rc])) = M84
                have h85 : M84 (m + 1) = some (.inl (0, 400, .inl ft)) := by rw [← eM84, j_up_ne _ _ (by omega)]; exact h76
                have h86 : M84 (m + 2) = some (.inl (0, 400, .inl fk)) := by rw [← eM84, j_up_ne _ _ (by omega)]; exact h77
                have h87 : M84 (m + 3) = some (.inl (0, 400, .inl fv)) := by rw [← eM84, j_up_ne _ _ (by omega)]; exact h78
                have h88 : M84 (m + 4) = some (.inl (0, 2, .inl kp)) := by rw [← eM84, j_up_ne _ _ (by omega)]; exact h79
                have h89 : M84 (m + 5) = some (.inl (0, 2, .inl mk)) := by rw [← eM84, j_up_ne _ _ (by omega)]; exact h80
                have h90 : M84 (m + 6) = some (.inl (0, 2400, .inl qa)) := by rw [← eM84, j_up_ne _ _ (by omega)]; exact h81
                have h92 : M84 m = some (.inr (5, [.int w, .int sl, .int la, .int sp, .int rm, .int ln, .ref (m + 1), .ref (m + 2), .ref (m + 3), .ref (m + 4), .ref (m + 5), .ref (m + 6), .int qd, .int lt, .int pr, .int tl, .int tk, .int (((gR w.toInt ft fk fv e1 k1 i).1) + (fv i)), .int (((gR w.toInt ft fk fv e1 k1 i).2.1) + 1), .int ((gR w.toInt ft fk fv e1 k1 i).2.2), .int rc])) := by rw [← eM84]; exact j_up_self _ _ _
                refine j_iinc X dX5_gather_115 rfl (v := nI (i + 1)) (nI_1 _) (by decide) rfl (L' := [some (.ref m), some (.long (lI e1)), none, some (.int k1), some (.int (nI (i + 1)))]) rfl ?_
                refine j_goto X 18 dX5_gather_118 (by decide) ?_
                have hi := ih (i + 1)
                rw [gR_succ w.toInt ft fk fv e1 k1 i] at hi
                rw [if_pos ⟨zo_ne.mp c35, c36⟩] at hi
                rw [if_neg (fun q => q.elim c37 (Int32.not_lt.mpr c65))] at hi
                exact hi M84 (by omega) h92 (fun q hq => by rw [← eM84, j_up_ne _ _ hq, ← eM75, j_up_ne _ _ hq, ← eM66, j_up_ne _ _ hq]; exact hfr q hq)
              · skip
                refine j_aload_n X 0 dX5_gather_72 rfl rfl ?_
                refine j_get X hmi rfl iwX5_gather_X5 8 (by decide) lkX5_gather_29 rfl dX5_gather_73 ?_
                refine j_iload X dX5_gather_76 rfl ?_
                refine j_iald X h3 hI (vp_in_nI (show i < 400 by omega) (by decide)) (v := fv i) (congrArg fv (nI_clamp (show i < 2 ^ 31 by omega))) dX5_gather_78 ?_
                refine j_goto X 86 dX5_gather_79 (by decide) ?_
                refine j_put X hmi rfl iwX5_gather_X5 tyX5 tyX5_ok nmX5 19 (by decide) lkX5_gather_115 rfl rfl rfl (Nat.le_of_ble_eq_true rfl) (fs' := [.int w, .int sl, .int la, .int sp, .int rm, .int ln, .ref (m + 1), .ref (m + 2), .ref (m + 3), .ref (m + 4), .ref (m + 5), .ref (m + 6), .int qd, .int lt, .int pr, .int tl, .int tk, .int ((gR w.toInt ft fk fv e1 k1 i).1), .int ((gR w.toInt ft fk fv e1 k1 i).2.1), .int (fv i), .int rc]) rfl dX5_gather_86 ?_
                generalize eM93 : j_up Mi m (.inr (5, [.int w, .int sl, .int la, .int sp, .int rm, .int ln, .ref (m + 1), .ref (m + 2), .ref (m + 3), .ref (m + 4), .ref (m + 5), .ref (m + 6), .int qd, .int lt, .int pr, .int tl, .int tk, .int ((gR w.toInt ft fk fv e1 k1 i).1), .int ((gR w.toInt ft fk fv e1 k1 i).2.1), .int (fv i), .int rc])) = M93
                have h95 : M93 (m + 1) = some (.inl (0, 400, .inl ft)) := by rw [← eM93, j_up_ne _ _ (by omega)]; exact h1
                have h96 : M93 (m + 2) = some (.inl (0, 400, .inl fk)) := by rw [← eM93, j_up_ne _ _ (by omega)]; exact h2
                have h97 : M93 (m + 3) = some (.inl (0, 400, .inl fv)) := by rw [← eM93, j_up_ne _ _ (by omega)]; exact h3
                have h98 : M93 (m + 4) = some (.inl (0, 2, .inl kp)) := by rw [← eM93, j_up_ne _ _ (by omega)]; exact h4
                have h99 : M93 (m + 5) = some (.inl (0, 2, .inl mk)) := by rw [← eM93, j_up_ne _ _ (by omega)]; exact h5
                have h100 : M93 (m + 6) = some (.inl (0, 2400, .inl qa)) := by rw [← eM93, j_up_ne _ _ (by omega)]; exact h6
                have h101 : M93 m = some (.inr (5, [.int w, .int sl, .int la, .int sp, .int rm, .int ln, .ref (m + 1), .ref (m + 2), .ref (m + 3), .ref (m + 4), .ref (m + 5), .ref (m + 6), .int qd, .int lt, .int pr, .int tl, .int tk, .int ((gR w.toInt ft fk fv e1 k1 i).1), .int ((gR w.toInt ft fk fv e1 k1 i).2.1), .int (fv i), .int rc])) := by rw [← eM93]; exact j_up_self _ _ _
                refine j_aload_n X 0 dX5_gather_89 rfl rfl ?_
                refine j_dup X dX5_gather_90 rfl ?_
                refine j_get X h101 rfl iwX5_gather_X5 17 (by decide) lkX5_gather_109 rfl dX5_gather_91 ?_
                refine j_aload_n X 0 dX5_gather_94 rfl rfl ?_
                refine j_get X h101 rfl iwX5_gather_X5 8 (by decide) lkX5_gather_29 rfl dX5_gather_95 ?_
                refine j_iload X dX5_gather_98 rfl ?_
                refine j_iald X h97 hI (vp_in_nI (show i < 400 by omega) (by decide)) (v := fv i) (congrArg fv (nI_clamp (show i < 2 ^ 31 by omega))) dX5_gather_100 ?_
                refine j_iadd X dX5_gather_101 ?_
                refine j_put X h101 rfl iwX5_gather_X5 tyX5 tyX5_ok nmX5 17 (by decide) lkX5_gather_109 rfl rfl rfl (Nat.le_of_ble_eq_true rfl) (fs' := [.int w, .int sl, .int la, .int sp, .int rm, .int ln, .ref (m + 1), .ref (m + 2), .ref (m + 3), .ref (m + 4), .ref (m + 5), .ref (m + 6), .int qd, .int lt, .int pr, .int tl, .int tk, .int (((gR w.toInt ft fk fv e1 k1 i).1) + (fv i)), .int ((gR w.toInt ft fk fv e1 k1 i).2.1), .int (fv i), .int rc]) rfl dX5_gather_102 ?_
                generalize eM102 : j_up M93 m (.inr (5, [.int w, .int sl, .int la, .int sp, .int rm, .int ln, .ref (m + 1), .ref (m + 2), .ref (m + 3), .ref (m + 4), .ref (m + 5), .ref (m + 6), .int qd, .int lt, .int pr, .int tl, .int tk, .int (((gR w.toInt ft fk fv e1 k1 i).1) + (fv i)), .int ((gR w.toInt ft fk fv e1 k1 i).2.1), .int (fv i), .int rc])) = M102
                have h103 : M102 (m + 1) = some (.inl (0, 400, .inl ft)) := by rw [← eM102, j_up_ne _ _ (by omega)]; exact h95
                have h104 : M102 (m + 2) = some (.inl (0, 400, .inl fk)) := by rw [← eM102, j_up_ne _ _ (by omega)]; exact h96
                have h105 : M102 (m + 3) = some (.inl (0, 400, .inl fv)) := by rw [← eM102, j_up_ne _ _ (by omega)]; exact h97
                have h106 : M102 (m + 4) = some (.inl (0, 2, .inl kp)) := by rw [← eM102, j_up_ne _ _ (by omega)]; exact h98
                have h107 : M102 (m + 5) = some (.inl (0, 2, .inl mk)) := by rw [← eM102, j_up_ne _ _ (by omega)]; exact h99
                have h108 : M102 (m + 6) = some (.inl (0, 2400, .inl qa)) := by rw [← eM102, j_up_ne _ _ (by omega)]; exact h100
                have h110 : M102 m = some (.inr (5, [.int w, .int sl, .int la, .int sp, .int rm, .int ln, .ref (m + 1), .ref (m + 2), .ref (m + 3), .ref (m + 4), .ref (m + 5), .ref (m + 6), .int qd, .int lt, .int pr, .int tl, .int tk, .int (((gR w.toInt ft fk fv e1 k1 i).1) + (fv i)), .int ((gR w.toInt ft fk fv e1 k1 i).2.1), .int (fv i), .int rc])) := by rw [← eM102]; exact j_up_self _ _ _
                refine j_aload_n X 0 dX5_gather_105 rfl rfl ?_
                refine j_dup X dX5_gather_106 rfl ?_
                refine j_get X h110 rfl iwX5_gather_X5 18 (by decide) lkX5_gather_112 rfl dX5_gather_107 ?_
                refine j_iconst X dX5_gather_110 (v := 1) (by decide) ?_
                refine j_iadd X dX5_gather_111 ?_
                refine j_put X h110 rfl iwX5_gather_X5 tyX5 tyX5_ok nmX5 18 (by decide) lkX5_gather_112 rfl rfl rfl (Nat.le_of_ble_eq_true rfl) (fs' := [.int w, .int sl, .int la, .int sp, .int rm, .int ln, .ref (m + 1), .ref (m + 2), .ref (m + 3), .ref (m + 4), .ref (m + 5), .ref (m + 6), .int qd, .int lt, .int pr, .int tl, .int tk, .int (((gR w.toInt ft fk fv e1 k1 i).1) + (fv i)), .int (((gR w.toInt ft fk fv e1 k1 i).2.1) + 1), .int (fv i), .int rc]) rfl dX5_gather_112 ?_
                generalize eM111 : j_up M102 m (.inr (5, [.int w, .int sl, .int la, .int sp, .int rm, .int ln, .ref (m + 1), .ref (m + 2), .ref (m + 3), .ref (m + 4), .ref (m + 5), .ref (m + 6), .int qd, .int lt, .int pr, .int tl, .int tk, .int (((gR w.toInt ft fk fv e1 k1 i).1) + (fv i)), .int (((gR w.toInt ft fk fv e1 k1 i).2.1) + 1), .int (fv i), .int rc])) = M111
                have h112 : M111 (m + 1) = some (.inl (0, 400, .inl ft)) := by rw [← eM111, j_up_ne _ _ (by omega)]; exact h103
                have h113 : M111 (m + 2) = some (.inl (0, 400, .inl fk)) := by rw [← eM111, j_up_ne _ _ (by omega)]; exact h104
                have h114 : M111 (m + 3) = some (.inl (0, 400, .inl fv)) := by rw [← eM111, j_up_ne _ _ (by omega)]; exact h105
                have h115 : M111 (m + 4) = some (.inl (0, 2, .inl kp)) := by rw [← eM111, j_up_ne _ _ (by omega)]; exact h106
                have h116 : M111 (m + 5) = some (.inl (0, 2, .inl mk)) := by rw [← eM111, j_up_ne _ _ (by omega)]; exact h107
                have h117 : M111 (m + 6) = some (.inl (0, 2400, .inl qa)) := by rw [← eM111, j_up_ne _ _ (by omega)]; exact h108
                have h119 : M111 m = some (.inr (5, [.int w, .int sl, .int la, .int sp, .int rm, .int ln, .ref (m + 1), .ref (m + 2), .ref (m + 3), .ref (m + 4), .ref (m + 5), .ref (m + 6), .int qd, .int lt, .int pr, .int tl, .int tk, .int (((gR w.toInt ft fk fv e1 k1 i).1) + (fv i)), .int (((gR w.toInt ft fk fv e1 k1 i).2.1) + 1), .int (fv i), .int rc])) := by rw [← eM111]; exact j_up_self _ _ _
                refine j_iinc X dX5_gather_115 rfl (v := nI (i + 1)) (nI_1 _) (by decide) rfl (L' := [some (.ref m), some (.long (lI e1)), none, some (.int k1), some (.int (nI (i + 1)))]) rfl ?_
                refine j_goto X 18 dX5_gather_118 (by decide) ?_
                have hi := ih (i + 1)
                rw [gR_succ w.toInt ft fk fv e1 k1 i] at hi
                rw [if_pos ⟨zo_ne.mp c35, c36⟩] at hi
                rw [if_pos (Or.inr (Int32.not_le.mp c65))] at hi
                exact hi M111 (by omega) h119 (fun q hq => by rw [← eM111, j_up_ne _ _ hq, ← eM102, j_up_ne _ _ hq, ← eM93, j_up_ne _ _ hq]; exact hfr q hq)
  refine j_aload_n X 0 dX5_gather_0 rfl rfl ?_
  refine j_iconst X dX5_gather_1 (v := 0) (by decide) ?_
  refine j_put X hm rfl iwX5_gather_X5 tyX5 tyX5_ok nmX5 17 (by decide) lkX5_gather_109 rfl rfl rfl (Nat.le_of_ble_eq_true rfl) (fs' := [.int w, .int sl, .int la, .int sp, .int rm, .int ln, .ref (m + 1), .ref (m + 2), .ref (m + 3), .ref (m + 4), .ref (m + 5), .ref (m + 6), .int qd, .int lt, .int pr, .int tl, .int tk, .int 0, .int my, .int gr, .int rc]) rfl dX5_gather_2 ?_
  generalize eM120 : j_up M m (.inr (5, [.int w, .int sl, .int la, .int sp, .int rm, .int ln, .ref (m + 1), .ref (m + 2), .ref (m + 3), .ref (m + 4), .ref (m + 5), .ref (m + 6), .int qd, .int lt, .int pr, .int tl, .int tk, .int 0, .int my, .int gr, .int rc])) = M120
  have h122 : M120 (m + 1) = some (.inl (0, 400, .inl ft)) := by rw [← eM120, j_up_ne _ _ (by omega)]; exact h1
  have h123 : M120 (m + 2) = some (.inl (0, 400, .inl fk)) := by rw [← eM120, j_up_ne _ _ (by omega)]; exact h2
  have h124 : M120 (m + 3) = some (.inl (0, 400, .inl fv)) := by rw [← eM120, j_up_ne _ _ (by omega)]; exact h3
  have h125 : M120 (m + 4) = some (.inl (0, 2, .inl kp)) := by rw [← eM120, j_up_ne _ _ (by omega)]; exact h4
  have h126 : M120 (m + 5) = some (.inl (0, 2, .inl mk)) := by rw [← eM120, j_up_ne _ _ (by omega)]; exact h5
  have h127 : M120 (m + 6) = some (.inl (0, 2400, .inl qa)) := by rw [← eM120, j_up_ne _ _ (by omega)]; exact h6
  have h128 : M120 m = some (.inr (5, [.int w, .int sl, .int la, .int sp, .int rm, .int ln, .ref (m + 1), .ref (m + 2), .ref (m + 3), .ref (m + 4), .ref (m + 5), .ref (m + 6), .int qd, .int lt, .int pr, .int tl, .int tk, .int 0, .int my, .int gr, .int rc])) := by rw [← eM120]; exact j_up_self _ _ _
  refine j_aload_n X 0 dX5_gather_5 rfl rfl ?_
  refine j_iconst X dX5_gather_6 (v := 0) (by decide) ?_
  refine j_put X h128 rfl iwX5_gather_X5 tyX5 tyX5_ok nmX5 18 (by decide) lkX5_gather_112 rfl rfl rfl (Nat.le_of_ble_eq_true rfl) (fs' := [.int w, .int sl, .int la, .int sp, .int rm, .int ln, .ref (m + 1), .ref (m + 2), .ref (m + 3), .ref (m + 4), .ref (m + 5), .ref (m + 6), .int qd, .int lt, .int pr, .int tl, .int tk, .int 0, .int 0, .int gr, .int rc]) rfl dX5_gather_7 ?_
  generalize eM129 : j_up M120 m (.inr (5, [.int w, .int sl, .int la, .int sp, .int rm, .int ln, .ref (m + 1), .ref (m + 2), .ref (m + 3), .ref (m + 4), .ref (m + 5), .ref (m + 6), .int qd, .int lt, .int pr, .int tl, .int tk, .int 0, .int 0, .int gr, .int rc])) = M129
  have h130 : M129 (m + 1) = some (.inl (0, 400, .inl ft)) := by rw [← eM129, j_up_ne _ _ (by omega)]; exact h122
  have h131 : M129 (m + 2) = some (.inl (0, 400, .inl fk)) := by rw [← eM129, j_up_ne _ _ (by omega)]; exact h123
  have h132 : M129 (m + 3) = some (.inl (0, 400, .inl fv)) := by rw [← eM129, j_up_ne _ _ (by omega)]; exact h124
  have h133 : M129 (m + 4) = some (.inl (0, 2, .inl kp)) := by rw [← eM129, j_up_ne _ _ (by omega)]; exact h125
  have h134 : M129 (m + 5) = some (.inl (0, 2, .inl mk)) := by rw [← eM129, j_up_ne _ _ (by omega)]; exact h126
  have h135 : M129 (m + 6) = some (.inl (0, 2400, .inl qa)) := by rw [← eM129, j_up_ne _ _ (by omega)]; exact h127
  have h137 : M129 m = some (.inr (5, [.int w, .int sl, .int la, .int sp, .int rm, .int ln, .ref (m + 1), .ref (m + 2), .ref (m + 3), .ref (m + 4), .ref (m + 5), .ref (m + 6), .int qd, .int lt, .int pr, .int tl, .int tk, .int 0, .int 0, .int gr, .int rc])) := by rw [← eM129]; exact j_up_self _ _ _
  refine j_aload_n X 0 dX5_gather_10 rfl rfl ?_
  refine j_iconst X dX5_gather_11 (v := 0) (by decide) ?_
  refine j_put X h137 rfl iwX5_gather_X5 tyX5 tyX5_ok nmX5 19 (by decide) lkX5_gather_115 rfl rfl rfl (Nat.le_of_ble_eq_true rfl) (fs' := [.int w, .int sl, .int la, .int sp, .int rm, .int ln, .ref (m + 1), .ref (m + 2), .ref (m + 3), .ref (m + 4), .ref (m + 5), .ref (m + 6), .int qd, .int lt, .int pr, .int tl, .int tk, .int 0, .int 0, .int 0, .int rc]) rfl dX5_gather_12 ?_
  generalize eM138 : j_up M129 m (.inr (5, [.int w, .int sl, .int la, .int sp, .int rm, .int ln, .ref (m + 1), .ref (m + 2), .ref (m + 3), .ref (m + 4), .ref (m + 5), .ref (m + 6), .int qd, .int lt, .int pr, .int tl, .int tk, .int 0, .int 0, .int 0, .int rc])) = M138
  have h139 : M138 (m + 1) = some (.inl (0, 400, .inl ft)) := by rw [← eM138, j_up_ne _ _ (by omega)]; exact h130
  have h140 : M138 (m + 2) = some (.inl (0, 400, .inl fk)) := by rw [← eM138, j_up_ne _ _ (by omega)]; exact h131
  have h141 : M138 (m + 3) = some (.inl (0, 400, .inl fv)) := by rw [← eM138, j_up_ne _ _ (by omega)]; exact h132
  have h142 : M138 (m + 4) = some (.inl (0, 2, .inl kp)) := by rw [← eM138, j_up_ne _ _ (by omega)]; exact h133
  have h143 : M138 (m + 5) = some (.inl (0, 2, .inl mk)) := by rw [← eM138, j_up_ne _ _ (by omega)]; exact h134
  have h144 : M138 (m + 6) = some (.inl (0, 2400, .inl qa)) := by rw [← eM138, j_up_ne _ _ (by omega)]; exact h135
  have h146 : M138 m = some (.inr (5, [.int w, .int sl, .int la, .int sp, .int rm, .int ln, .ref (m + 1), .ref (m + 2), .ref (m + 3), .ref (m + 4), .ref (m + 5), .ref (m + 6), .int qd, .int lt, .int pr, .int tl, .int tk, .int 0, .int 0, .int 0, .int rc])) := by rw [← eM138]; exact j_up_self _ _ _
  refine j_iconst X dX5_gather_15 (v := 0) (by decide) ?_
  refine j_istore X dX5_gather_16 (by decide) rfl (L' := [some (.ref m), some (.long (lI e1)), none, some (.int k1), some (.int 0)]) rfl ?_
  exact outer a 0 M138 (by omega) h146 (fun q hq => by rw [← eM138, j_up_ne _ _ (hq), ← eM129, j_up_ne _ _ (hq), ← eM120, j_up_ne _ _ (hq)])
