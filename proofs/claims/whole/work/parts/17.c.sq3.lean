set_option maxHeartbeats 800000 in
set_option maxRecDepth 100000 in
theorem c_X4_gather (l : Launch) (D : va_G) {ty : jT} {cA : ClassId} (hI : ty[0]? = some (cA, .int)) (b0 : Nat) {M : jM} {n x : Nat} {w sl la sp rm ln mA mB lt pr tl tk : Int32} (hx : M x = some (sqO x w sl la sp rm ln mA mB lt pr tl tk)) {nb : Nat} {cs : List Nd} (hG : GrAt M (x + 9) cs) (hnd : (cs.map Prod.fst).Nodup) (hnb : ∀ z ∈ cs, nb ≤ z.1) (hxn : x + 13 ≤ nb) (hnn : nb ≤ n) (t k v : Int32) (ht : t.toInt ≤ 1000000000) (hB : okB w sl ((fd (t - w) sl + 1) * sl)) : Ct l D ty vwCl nwSQ b0 yX4_gather wsX4_gather 3 70 16 96 [.ref x, .int t, .int k, .int v] M n (gathd M n x nb ((endsF t w sl 16 ((fd (t - w) sl + 1) * sl)).foldl (fun gs e => ups e k v gs) (cs.map Prod.snd))) := by
  have hx : M x = some (.inr (4, [.ref (x + 1), .ref (x + 5), .ref (x + 9), .ref (x + 11), .int w, .int sl, .int la, .int sp, .int rm, .int ln, .int mA, .int mB, .int lt, .int pr, .int tl, .int tk])) := hx
  refine j_start (cc := cX4_gather) (maxL := 7) (ret := none) (by decide) rfl [some (.ref x), some (.int t), some (.int k), some (.int v), none, none, none] (Nat.le_of_ble_eq_true rfl) rfl ?_
  intro p e s m below meth c X hlk hr hnm
  refine j_ltA (fun hltA => ?_)
  have loop : ∀ (z i : Nat) (b : Int32) (Mi : jM) (ni : Nat) (P : List Nd) (c1 : Nd) (T cs1 : List Nd), i + z = 16 → okB w sl b → Seg Mi (some (x + 9 + 1)) (P ++ c1 :: T) none → ((P ++ c1 :: T).map Prod.fst).Nodup → (∀ y ∈ P ++ c1 :: T, y.1 < ni) → P ++ c1 :: T = (x + 9 + 1, g_hd) :: cs1 → (∀ y ∈ cs1, nb ≤ y.1) → (b ≤ t → ∀ y ∈ P ++ [c1], bef y.2 (b + w) k = true) → (endsF t w sl z (b)).foldl (fun gs e => ups e k v gs) ((P ++ c1 :: T).map Prod.snd) = (endsF t w sl 16 ((fd (t - w) sl + 1) * sl)).foldl (fun gs e => ups e k v gs) (((x + 9 + 1, g_hd) :: cs).map Prod.snd) → n ≤ ni → (∀ q, q < nb → q ≠ x + 9 + 1 → Mi q = M q) → J p l e { frames := 3, cells := 16, slots := 96, locals := 70 } s m ([.ref x, .int t, .int k, .int v] : List Value).toArray below meth c D ty vwCl b0 (MQ below (j_Q D ty vwCl b0 (gathd M n x nb ((endsF t w sl 16 ((fd (t - w) sl + 1) * sl)).foldl (fun gs e => ups e k v gs) (cs.map Prod.snd)))) ([.ref x, .int t, .int k, .int v] : List Value).toArray s 16 96 (fun q => b0 ≤ q)) 7 Mi ni i (6 * i) 24 [some (.ref x), some (.int t), some (.int k), some (.int v), some (.ref c1.1), some (.int b), some (.int (nI i))] [] := by
    intro z
    induction z with
    | zero =>
      intro i b Mi ni P c1 T cs1 hz hb hs hnodup hlt hcs hnb1 hbef hfold hni hfr
      refine j_iload X dX4_gather_24 rfl ?_
      refine j_bipush X dX4_gather_26 (v := 16) (by decide) ?_
      refine j_icmp_ge X 77 dX4_gather_28 (by decide) (fun c1 => ?_) (fun c1 => ?_)
      · skip
        exact j_vret X hlk hr (by omega) (by omega) dX4_gather_77 (gathd_end hG.1 hxn hnn hs hcs hnodup hnb1 hfold (fun e he => endsF_hd ht hB e he) hfr hni)
      · skip
        exact absurd (show (16 : Int32) ≤ nI i from nI_le (a := 16) (by omega) (by omega)) c1
    | succ z ih =>
      intro i b Mi ni P c1 T cs1 hz hb hs hnodup hlt hcs hnb1 hbef hfold hni hfr
      have hxi : Mi x = some (.inr (4, [.ref (x + 1), .ref (x + 5), .ref (x + 9), .ref (x + 11), .int w, .int sl, .int la, .int sp, .int rm, .int ln, .int mA, .int mB, .int lt, .int pr, .int tl, .int tk])) := by rw [hfr x (by omega) (by omega)]; exact hx
      have hgi : Mi (x + 9) = some (.inr (2, [.ref (x + 9 + 1)])) := by rw [hfr (x + 9) (by omega) (by omega)]; exact hG.1
      obtain ⟨_, hsc⟩ := Seg.app.mp hs
      have hsc := hsc.2
      have hc1 := hsc.1
      subst hc1
      refine j_iload X dX4_gather_24 rfl ?_
      refine j_bipush X dX4_gather_26 (v := 16) (by decide) ?_
      refine j_icmp_ge X 77 dX4_gather_28 (by decide) (fun c2 => ?_) (fun c2 => ?_)
      · skip
        exact absurd c2 (show ¬ (16 : Int32) ≤ nI i from nI_ge (b := 16) (by omega) (by decide))
      · skip
        refine j_iload X dX4_gather_31 rfl ?_
        refine j_iload_n X 1 dX4_gather_33 rfl rfl ?_
        refine j_icmp_gt X 77 dX4_gather_34 (by decide) (fun c3 => ?_) (fun c3 => ?_)
        · skip
          exact j_vret X hlk hr (by omega) (by omega) dX4_gather_77 (gathd_end hG.1 hxn hnn hs hcs hnodup hnb1 (by rw [← hfold, endsF_F (Int32.not_le.mpr c3)]; rfl) (fun e he => endsF_hd ht hB e he) hfr hni)
        · skip
          have hbt : b ≤ t := Int32.not_lt.mp c3
          refine j_aload_n X 0 dX4_gather_37 rfl rfl ?_
          refine j_get X hxi rfl iwX4_gather_X4 2 (by decide) lkX4_gather_22 rfl dX4_gather_38 ?_
          refine j_aload X dX4_gather_41 rfl ?_
          refine j_iload X dX4_gather_43 rfl ?_
          refine j_aload_n X 0 dX4_gather_45 rfl rfl ?_
          refine j_get X hxi rfl iwX4_gather_X4 4 (by decide) lkX4_gather_33 rfl dX4_gather_46 ?_
          refine j_iadd X dX4_gather_49 ?_
          refine j_iload_n X 2 dX4_gather_50 rfl rfl ?_
          refine j_callV X nwSQ_ok (As := [.ref c1.1, .int (b + w), .int k]) (rest := []) hgi rfl rfl (c_X2_placeFrom l D hI b0 hgi (x0 := c1) (t0 := T) hsc (b + w) k) rfl gX4_gather_X2_placeFrom ⟨rfl, ddX2_placeFrom⟩ ⟨Nat.le_of_ble_eq_true rfl, Nat.le_of_ble_eq_true rfl⟩ (Nat.le_of_ble_eq_true rfl) rfl dX4_gather_51 ⟨(by show i + 1 ≤ 16; omega), (by show 6 * i + 6 ≤ 96; omega)⟩ (fun r4 M5 n6 hr7 => ?_)
          obtain ⟨P2, z1, R1, rfl, hs1, hnd1, hlt1, hn1, hn1b, hmem1, hf1, hbef1, hz1, hz2, ⟨h0, P3, hP3, T3, hT3⟩, hups⟩ := chain_place hs hnodup hlt hr7 (hbef hbt)
          have hin1 : ∀ q, q < nb → q ≠ x + 9 + 1 → M5 q = M q := fun q h1 h2 => (hf1 q (by omega) (fun y hy => (List.mem_cons.mp (hcs ▸ hy)).elim (fun h => by rw [h]; exact fun h3 => h2 h3.symm) (fun h => by have := hnb1 y h; omega))).trans (hfr q h1 h2)
          refine j_st (st := [.ref z1.1]) rfl ?_
          have hxj : M5 x = some (.inr (4, [.ref (x + 1), .ref (x + 5), .ref (x + 9), .ref (x + 11), .int w, .int sl, .int la, .int sp, .int rm, .int ln, .int mA, .int mB, .int lt, .int pr, .int tl, .int tk])) := by rw [hin1 x (by omega) (by omega)]; exact hx
          obtain ⟨nz, hz0⟩ := hs1.mem z1 (List.mem_append_right _ List.mem_cons_self)
          refine j_astore X dX4_gather_54 (by decide) rfl (L' := [some (.ref x), some (.int t), some (.int k), some (.int v), some (.ref z1.1), some (.int b), some (.int (nI i))]) rfl ?_
          refine j_aload X dX4_gather_56 rfl ?_
          refine j_iload_n X 3 dX4_gather_58 rfl rfl ?_
          refine j_callV X nwSQ_ok (As := [.int v]) (rest := []) hz0 rfl rfl (c_X1_gather l D hI b0 hz0 v) rfl gX4_gather_X1_gather ⟨rfl, ddX1_gather⟩ ⟨Nat.le_of_ble_eq_true rfl, Nat.le_of_ble_eq_true rfl⟩ (Nat.le_of_ble_eq_true rfl) rfl dX4_gather_59 ⟨(by show i + 1 + 0 ≤ 16; omega), (by show 6 * i + 6 + 0 ≤ 96; omega)⟩ (fun r8 M9 n10 hr11 => ?_)
          obtain ⟨rfl, rfl, hz3, hf3⟩ := hr11
          refine j_st (st := []) rfl ?_
          have hs2 := Seg.upd hs1 hnd1 hz0 hz3 hf3
          have hzne : z1.1 ≠ x := fun h => by rw [h] at hz0; rw [hxj] at hz0; simp [gnode] at hz0
          have hxk : M9 x = some (.inr (4, [.ref (x + 1), .ref (x + 5), .ref (x + 9), .ref (x + 11), .int w, .int sl, .int la, .int sp, .int rm, .int ln, .int mA, .int mB, .int lt, .int pr, .int tl, .int tk])) := by rw [hf3 x (fun h => hzne h.symm)]; exact hxj
          refine j_iload X dX4_gather_62 rfl ?_
          refine j_aload_n X 0 dX4_gather_64 rfl rfl ?_
          refine j_get X hxk rfl iwX4_gather_X4 5 (by decide) lkX4_gather_37 rfl dX4_gather_65 ?_
          refine j_iadd X dX4_gather_68 ?_
          refine j_istore X dX4_gather_69 (by decide) rfl (L' := [some (.ref x), some (.int t), some (.int k), some (.int v), some (.ref z1.1), some (.int (b + sl)), some (.int (nI i))]) rfl ?_
          refine j_iinc X dX4_gather_71 rfl (v := nI (i + 1)) (nI_1 _) (by decide) rfl (L' := [some (.ref x), some (.int t), some (.int k), some (.int v), some (.ref z1.1), some (.int (b + sl)), some (.int (nI (i + 1)))]) rfl ?_
          refine j_goto X 24 dX4_gather_74 (by decide) ?_
          obtain ⟨hb2, hee⟩ := okB.step hb ht hbt
          have hmap : (P2 ++ (z1.1, gth z1.2 v) :: R1).map Prod.fst = (P2 ++ z1 :: R1).map Prod.fst := by simp
          rw [endsF_T hbt] at hfold
          have hh0 : h0 = (x + 9 + 1, g_hd) := by rw [hcs] at hT3; exact (List.cons.inj hT3).1.symm
          subst hP3; subst hh0
          have hz1b : ∀ y ∈ P3 ++ z1 :: R1, nb ≤ y.1 := fun y hy => by
              rcases hmem1 y (List.mem_cons_of_mem _ hy) with h | h
              · rw [hcs] at h
                rcases List.mem_cons.mp h with h | h
                · have hq : (((x + 9 + 1) :: (P3 ++ z1 :: R1).map Prod.fst)).Nodup := hnd1
                  exact absurd (List.mem_map_of_mem (f := Prod.fst) hy) (by rw [h]; exact (List.nodup_cons.mp hq).1)
                · exact hnb1 y h
              · omega
          refine ih (i + 1) (b + sl) M9 n6 ((x + 9 + 1, g_hd) :: P3) (z1.1, gth z1.2 v) R1 (P3 ++ (z1.1, gth z1.2 v) :: R1) (by omega) hb2 hs2 (by rw [hmap]; exact hnd1) (fun y hy => ?_) rfl (fun y hy => ?_) (fun _ y hy => ?_) ?_ (by omega) (fun q h1 h2 => ?_)
          · rcases List.mem_append.mp hy with h | h
            · exact hlt1 y (List.mem_append_left _ h)
            · rcases List.mem_cons.mp h with rfl | h
              · exact hlt1 z1 (List.mem_append_right _ List.mem_cons_self)
              · exact hlt1 y (List.mem_append_right _ (List.mem_cons_of_mem _ h))
          · rcases List.mem_append.mp hy with h | h
            · exact hz1b y (List.mem_append_left _ h)
            · rcases List.mem_cons.mp h with rfl | h
              · exact hz1b z1 (List.mem_append_right _ List.mem_cons_self)
              · exact hz1b y (List.mem_append_right _ (List.mem_cons_of_mem _ h))
          · rcases List.mem_append.mp hy with h | h
            · exact bef_mono (hbef1 y h) hee
            · have hy2 : y = (z1.1, gth z1.2 v) := by simpa using h
              rw [hy2]
              exact bef_lt (show z1.2.1 < _ by rw [hz1]; exact hee)
          · rw [← hfold, List.foldl_cons, hups v]
            simp
          · rw [hf3 q (fun h => ?_)]
            · exact hin1 q h1 h2
            · have := hz1b z1 (List.mem_append_right _ List.mem_cons_self)
              omega
  refine j_aload_n X 0 dX4_gather_0 rfl rfl ?_
  refine j_get X hx rfl iwX4_gather_X4 2 (by decide) lkX4_gather_22 rfl dX4_gather_1 ?_
  refine j_callV X nwSQ_ok (As := []) (rest := []) hG.1 rfl rfl (c_X2_head l D hI b0 hG) rfl gX4_gather_X2_head ⟨rfl, ddX2_head⟩ ⟨Nat.le_of_ble_eq_true rfl, Nat.le_of_ble_eq_true rfl⟩ (Nat.le_of_ble_eq_true rfl) rfl dX4_gather_4 ⟨(by show 0 + 0 ≤ 16; omega), (by show 0 + 0 ≤ 96; omega)⟩ (fun r12 M13 n14 hr15 => ?_)
  obtain ⟨rfl, rfl, rfl⟩ := hr15
  refine j_st (st := [.ref (x + 9 + 1)]) rfl ?_
  refine j_astore X dX4_gather_7 (by decide) rfl (L' := [some (.ref x), some (.int t), some (.int k), some (.int v), some (.ref (x + 9 + 1)), none, none]) rfl ?_
  refine j_aload_n X 0 dX4_gather_9 rfl rfl ?_
  refine j_iload_n X 1 dX4_gather_10 rfl rfl ?_
  refine j_aload_n X 0 dX4_gather_11 rfl rfl ?_
  refine j_get X hx rfl iwX4_gather_X4 4 (by decide) lkX4_gather_33 rfl dX4_gather_12 ?_
  refine j_isub X dX4_gather_15 ?_
  refine j_callV X nwSQ_ok (As := [.int (t - w)]) (rest := []) hx rfl rfl (c_X4_beginningAbove l D hI b0 hx (i_le.mpr (show (1 : Int) ≤ _ from hB.2.2.1)) (t - w)) rfl gX4_gather_X4_beginningAbove ⟨rfl, ddX4_beginningAbove⟩ ⟨Nat.le_of_ble_eq_true rfl, Nat.le_of_ble_eq_true rfl⟩ (Nat.le_of_ble_eq_true rfl) rfl dX4_gather_16 ⟨(by show 0 + 0 ≤ 16; omega), (by show 0 + 0 ≤ 96; omega)⟩ (fun r16 M17 n18 hr19 => ?_)
  obtain ⟨rfl, rfl, rfl⟩ := hr19
  refine j_st (st := [.int ((fd (t - w) sl + 1) * sl)]) rfl ?_
  refine j_istore X dX4_gather_19 (by decide) rfl (L' := [some (.ref x), some (.int t), some (.int k), some (.int v), some (.ref (x + 9 + 1)), some (.int ((fd (t - w) sl + 1) * sl)), none]) rfl ?_
  refine j_iconst X dX4_gather_21 (v := 0) (by decide) ?_
  refine j_istore X dX4_gather_22 (by decide) rfl (L' := [some (.ref x), some (.int t), some (.int k), some (.int v), some (.ref (x + 9 + 1)), some (.int ((fd (t - w) sl + 1) * sl)), some (.int 0)]) rfl ?_
  exact loop 16 0 _ M n [] (x + 9 + 1, g_hd) cs cs (by omega) hB hG.2 (List.nodup_cons.mpr ⟨fun h => by obtain ⟨y, hy, he⟩ := List.mem_map.mp h; have := hnb y hy; omega, hnd⟩) (fun y hy => by obtain ⟨nx, hq⟩ := hG.2.mem y hy; exact (hltA _ _ hq).2) rfl hnb (fun hbt y hy => by rw [show y = (x + 9 + 1, g_hd) from List.mem_singleton.mp hy]; exact okB.hd hB ht hbt) rfl (Nat.le_refl _) (fun _ _ _ => rfl)
