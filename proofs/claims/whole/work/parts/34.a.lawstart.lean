theorem nw_in : ∀ w ∈ nwSQ, w ∈ lw_tbl := by decide +kernel
theorem arr_in : Cond.arrayClass .int ∈ lw_tbl := by decide +kernel
theorem insX0 : Cond.instantiable RX0 4 ∈ lw_tbl := by decide +kernel
theorem insX1 : Cond.instantiable RX1 6 ∈ lw_tbl := by decide +kernel
theorem insX2 : Cond.instantiable RX2 1 ∈ lw_tbl := by decide +kernel
theorem insX3 : Cond.instantiable RX3 3 ∈ lw_tbl := by decide +kernel
theorem insX4 : Cond.instantiable RX4 16 ∈ lw_tbl := by decide +kernel
theorem insX5 : Cond.instantiable RX5 21 ∈ lw_tbl := by decide +kernel
set_option maxHeartbeats 800000 in
set_option maxRecDepth 100000 in
theorem law_init {p : Program} {l : Launch} {e : Env} {s : State} {m : MethodId} {below : List Frame} {meth : Method} {c : Code} {D : va_G} {ty : jT} {cA : ClassId} {x b N : Nat} {xs : Nat → Int32} (hI : ty[0]? = some (cA, .int)) (X : j_X p s m #[Value.ref b] c code 4 RL wsL_law D ty vwCl nwSQ) (hXs : va_X b N xs s s.heap) (hbl : b < s.heap.size) (hb0 : x = s.heap.size) (hr : meth.sig.returnType = ret) (hlk : meth.locks = false) (hN : N ≤ 3584) : J p l e room_1 s m #[Value.ref b] below meth c D ty vwCl x (lw_Z below #[Value.ref b] s) 4 (fun _ => none) x 0 0 0 [some (.ref b), none, none, none] [] := by
  generalize hM0 : (fun _ => none : jM) = M0
  refine j_new X (ci := 4) (fs := [.null, .null, .null, .null, .int 0, .int 0, .int 0, .int 0, .int 0, .int 0, .int 0, .int 0, .int 0, .int 0, .int 0, .int 0]) rfl inlX4 tyX4 tyX4_ok wdL_law_cl7 wdL_law_itX4 wdL_law_inX4 dfX4 (by decide) (by decide) dL_law_0 ?_
  generalize eM132 : j_up M0 x (.inr (4, [.null, .null, .null, .null, .int 0, .int 0, .int 0, .int 0, .int 0, .int 0, .int 0, .int 0, .int 0, .int 0, .int 0, .int 0])) = M132
  have h133 : M132 x = some (.inr (4, [.null, .null, .null, .null, .int 0, .int 0, .int 0, .int 0, .int 0, .int 0, .int 0, .int 0, .int 0, .int 0, .int 0, .int 0])) := by rw [← eM132]; exact j_up_self _ _ _
  refine j_dup X dL_law_3 rfl ?_
  refine j_callI X nwSQ_ok (As := []) (rest := [.ref x]) (b := x) rfl (c_X4_init l D hI x (nb := x + 20) rfl (by omega) h133) rfl rfl gL_law_X4_init wdL_law_inX4 wdL_law_ml9 wdL_law_imX4_init rfl ddX4_init ⟨Nat.le_of_ble_eq_true rfl, Nat.le_of_ble_eq_true rfl⟩ (Nat.le_of_ble_eq_true rfl) rfl dL_law_4 ⟨(by show 1 + 12 ≤ 633548; omega), (by show 16 + 3618 ≤ 7201603; omega)⟩ (fun r134 M135 n136 hr137 => ?_)
  obtain ⟨rfl, rfl, hSQ, hf1⟩ := hr137
  refine j_st (st := [.ref x]) rfl ?_
  refine j_astore_n X 1 dL_law_7 rfl (by decide) rfl (L' := [some (.ref b), some (.ref x), none, none]) rfl ?_
  refine j_new X (ci := 5) (fs := [.int 0, .int 0, .int 0, .int 0, .int 0, .int 0, .null, .null, .null, .null, .null, .null, .int 0, .int 0, .int 0, .int 0, .int 0, .int 0, .int 0, .int 0, .int 0]) rfl inlX5 tyX5 tyX5_ok wdL_law_cl10 wdL_law_itX5 wdL_law_inX5 dfX5 (by decide) (by decide) dL_law_8 ?_
  generalize eM138 : j_up M135 (x + 13) (.inr (5, [.int 0, .int 0, .int 0, .int 0, .int 0, .int 0, .null, .null, .null, .null, .null, .null, .int 0, .int 0, .int 0, .int 0, .int 0, .int 0, .int 0, .int 0, .int 0])) = M138
  have h139 : M138 (x + 13) = some (.inr (5, [.int 0, .int 0, .int 0, .int 0, .int 0, .int 0, .null, .null, .null, .null, .null, .null, .int 0, .int 0, .int 0, .int 0, .int 0, .int 0, .int 0, .int 0, .int 0])) := by rw [← eM138]; exact j_up_self _ _ _
  refine j_dup X dL_law_11 rfl ?_
  have hSQ2 : SQ M138 x (x + 20) 10 10 0 0 100 200 (-2000000000) (-2000000000) 0 0 0 0 [] [] [] [] := hSQ.frame (fun q hq => by rw [← eM138]; exact j_up_ne _ _ (by omega))
  refine j_callI X nwSQ_ok (As := []) (rest := [.ref (x + 13)]) (b := x + 13) rfl (c_X5_init l D hI x (m := x + 13) rfl h139) rfl rfl gL_law_X5_init wdL_law_inX5 wdL_law_ml12 wdL_law_imX5_init rfl ddX5_init ⟨Nat.le_of_ble_eq_true rfl, Nat.le_of_ble_eq_true rfl⟩ (Nat.le_of_ble_eq_true rfl) rfl dL_law_12 ⟨(by show 14 + 6 ≤ 633548; omega), (by show 3655 + 3604 ≤ 7201603; omega)⟩ (fun r140 M141 n142 hr143 => ?_)
  obtain ⟨rfl, rfl, hRF, hf2⟩ := hr143
  refine j_st (st := [.ref (x + 13)]) rfl ?_
  refine j_astore_n X 2 dL_law_15 rfl (by decide) rfl (L' := [some (.ref b), some (.ref x), some (.ref (x + 13)), none]) rfl ?_
  refine j_iconst X dL_law_16 (v := 0) (by decide) ?_
  refine j_istore_n X 3 dL_law_17 rfl (by decide) rfl (L' := [some (.ref b), some (.ref x), some (.ref (x + 13)), some (.int 0)]) rfl ?_
  have hSQ3 := hSQ2.frame (M' := M141) (fun q hq => hf2 q (by omega))
  exact law_loop hI X hXs hbl hb0 hr hlk hN (N + 1) 0 M141 (x + 20) _ _ (by omega) (by omega) ⟨_, _, _, _, _, _, _, _, _, _, _, _, _, _, _, _, hSQ3, hRF, NV.start (okS_I ⟨⟨by decide, by decide, by decide⟩, by decide, by decide, by decide, by decide⟩), Nat.le_refl _⟩ (Nat.le_of_ble_eq_true rfl) (Nat.le_of_ble_eq_true rfl)
-- ===== YOUR PART BEGINS =====
/-- from the entry, for every script of at most 3584 ints, the law comes to its end with true -/
theorem whole_start {p : Program} {e : Env} {s : State} {m : MethodId} {below : List Frame} {meth : Method} {c : Code} (l : Launch) {b L : Nat} {xs : Nat → Int32} (hL : L ≤ 3584) (C0 : lw_At p s m meth c b L xs) : W p l e room_1 s m #[Value.ref b] below meth c s.heap [] 0 0 (lw_Z below #[Value.ref b] s) (entryFrame m ([Value.ref b] : List Value).toArray 4) := by
  obtain ⟨hx, hb, hr, hml, hown, hts, hX, hbl, hlocks, hgv⟩ := id C0
  obtain ⟨c0, i0, hk0⟩ := u_known (C := RX0) (T := TX0) (N := 4) (n := 4) hts inX0 (hts _ insX0)
  obtain ⟨c1, i1, hk1⟩ := u_known (C := RX1) (T := TX1) (N := 6) (n := 6) hts inX1 (hts _ insX1)
  obtain ⟨c2, i2, hk2⟩ := u_known (C := RX2) (T := TX2) (N := 1) (n := 1) hts inX2 (hts _ insX2)
  obtain ⟨c3, i3, hk3⟩ := u_known (C := RX3) (T := TX3) (N := 3) (n := 3) hts inX3 (hts _ insX3)
  obtain ⟨c4, i4, hk4⟩ := u_known (C := RX4) (T := TX4) (N := 16) (n := 16) hts inX4 (hts _ insX4)
  obtain ⟨c5, i5, hk5⟩ := u_known (C := RX5) (T := TX5) (N := 21) (n := 21) hts inX5 (hts _ insX5)
  obtain ⟨dC, dI, hKc⟩ : ∃ (dC : Nat → ClassId) (dI : Nat → Nat → Nat), ∀ (k : Nat) (q : vw_C), vwCl[k]? = some q → u_Kn s q.1 q.2.1 q.2.2 (dC k) (dI k) := by
    refine ⟨fun k => if k = 0 then c0 else if k = 1 then c1 else if k = 2 then c2 else if k = 3 then c3 else if k = 4 then c4 else c5, fun k => if k = 0 then i0 else if k = 1 then i1 else if k = 2 then i2 else if k = 3 then i3 else if k = 4 then i4 else i5, ?_⟩
    intro k q hq
    match k, hq with
    | 0, hq => cases hq; exact hk0
    | 1, hq => cases hq; exact hk1
    | 2, hq => cases hq; exact hk2
    | 3, hq => cases hq; exact hk3
    | 4, hq => cases hq; exact hk4
    | 5, hq => cases hq; exact hk5
    | k + 6, hq => simp [vwCl] at hq
  obtain ⟨cI, hAr, hAn⟩ := arr_I (hts _ arr_in)
  have hK : j_K (dC, dI) [(cI, .int)] vwCl nwSQ s := by
    refine ⟨⟨hKc, fun k q hk => ?_⟩, fun w hw => ?_, fun k q hk => ?_⟩
    · have hz : k < 1 := (List.getElem?_eq_some_iff.mp hk).1
      rw [show k = 0 by omega] at hk
      cases hk
      exact ⟨hAr, hAn⟩
    · have h1 := List.all_eq_true.mp nwSQ_ok w hw
      have h2 : w.onTables = true := by cases w <;> first | (simp [j_nest] at h1; done) | rfl
      exact va_Nw.of h2 (hts w (nw_in w hw))
    · have hz : k < 1 := (List.getElem?_eq_some_iff.mp hk).1
      rw [show k = 0 by omega] at hk
      cases hk
      exact hAn
  have XX : j_X p s m #[Value.ref b] c code 4 RL wsL_law (dC, dI) [(cI, .int)] vwCl nwSQ := ⟨hx, hb, hml, hown, fun w hw => hts w (wsL_law_in w hw), hK⟩
  have hH : j_H (dC, dI) [(cI, .int)] vwCl s.heap.size (fun _ => none) s.heap.size s.heap := ⟨rfl, Nat.le_refl _, [], fun k q h => by simp at h, ⟨fun i j p q h => by simp at h, fun k q h => by simp at h⟩, fun a x h => by cases h⟩
  rw [lg_entry_eq]
  exact law_init (cA := cI) rfl XX hX hbl rfl hr hlocks hL s.heap [] _ hH va_S.rf (j_L0 (as := [.ref b]) (k := 4) (Nat.le_of_ble_eq_true rfl) rfl)
-- ===== YOUR PART ENDS =====
