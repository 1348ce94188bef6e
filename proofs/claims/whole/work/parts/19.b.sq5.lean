set_option maxHeartbeats 800000 in
set_option maxRecDepth 100000 in
theorem c_X4_init (l : Launch) (D : va_G) {ty : jT} {cA : ClassId} (hI : ty[0]? = some (cA, .int)) (b0 : Nat) {M : jM} {n x nb : Nat} (hn : n = x + 1) (hxn : x + 13 ≤ nb) (hx : M x = some (.inr (4, [.null, .null, .null, .null, .int 0, .int 0, .int 0, .int 0, .int 0, .int 0, .int 0, .int 0, .int 0, .int 0, .int 0, .int 0]))) : Ct l D ty vwCl nwSQ b0 yX4_init wsX4_init 3 63 12 3618 [.ref x] M (x + 1) (fun r M' n' => r = none ∧ n' = x + 13 ∧ SQ M' x nb 10 10 0 0 100 200 (-2000000000) (-2000000000) 0 0 0 0 ([]) ([]) ([]) ([]) ∧ ∀ q, (q < x ∨ x + 12 < q ∧ q < nb) → M' q = M q) := by
  subst hn
  have hnbE : ∀ z ∈ ([] : List Nd), nb ≤ z.1 := fun z hz => by cases hz
  refine j_start (cc := cX4_init) (maxL := 1) (ret := none) (by decide) rfl [some (.ref x)] (Nat.le_of_ble_eq_true rfl) rfl ?_
  intro p e s m below meth c X hlk hr hnm
  refine j_aload_n X 0 dX4_init_0 rfl rfl ?_
  refine j_objInit X wdX4_init_oi1 wdX4_init_oj wdX4_init_ok dX4_init_1 (Nat.le_of_ble_eq_true rfl) (Nat.le_of_ble_eq_true rfl) ?_
  refine j_aload_n X 0 dX4_init_4 rfl rfl ?_
  refine j_new X (ci := 0) (fs := [.null, .null, .null, .int 0]) rfl iwX4_init_X0 tyX0 tyX0_ok wdX4_init_cl7 wdX4_init_itX0 wdX4_init_inX0 dfX0 (by decide) (by decide) dX4_init_5 ?_
  generalize eM1 : j_up M (x + 1) (.inr (0, [.null, .null, .null, .int 0])) = M1
  have h2 : M1 x = some (.inr (4, [.null, .null, .null, .null, .int 0, .int 0, .int 0, .int 0, .int 0, .int 0, .int 0, .int 0, .int 0, .int 0, .int 0, .int 0])) := by rw [← eM1, j_up_ne _ _ (by omega)]; exact hx
  have h3 : M1 (x + 1) = some (.inr (0, [.null, .null, .null, .int 0])) := by rw [← eM1]; exact j_up_self _ _ _
  refine j_dup X dX4_init_8 rfl ?_
  refine j_callIN X nwSQ_ok (As := []) (rest := [.ref (x + 1), .ref x]) (b := x + 1) rfl (c_X0_init l D hI b0 (o := x + 1) rfl h3) rfl rfl gX4_init_X0_init_n9 wdX4_init_inX0 nlX4_9 wdX4_init_imX0_init rfl ddX0_init ⟨Nat.le_of_ble_eq_true rfl, Nat.le_of_ble_eq_true rfl⟩ (Nat.le_of_ble_eq_true rfl) rfl dX4_init_9 ⟨(by show 1 + 3 ≤ 12; omega), (by show 4 + 600 ≤ 3618; omega)⟩ (fun r4 M5 n6 hr7 => ?_)
  obtain ⟨rfl, hn10, hp8, hf9⟩ := hr7
  have hn10 : n6 = x + 5 := by omega
  subst hn10
  refine j_st (st := [.ref (x + 1), .ref x]) rfl ?_
  have h11 : M5 x = some (.inr (4, [.null, .null, .null, .null, .int 0, .int 0, .int 0, .int 0, .int 0, .int 0, .int 0, .int 0, .int 0, .int 0, .int 0, .int 0])) := by rw [hf9 x (by omega)]; exact h2
  refine j_putF X h11 rfl iwX4_init_X4 tyX4 tyX4_ok nmX4 0 (by decide) lkX4_init_10 rfl hnm rfl rfl rfl (Nat.le_of_ble_eq_true rfl) (fs' := [.ref (x + 1), .null, .null, .null, .int 0, .int 0, .int 0, .int 0, .int 0, .int 0, .int 0, .int 0, .int 0, .int 0, .int 0, .int 0]) rfl dX4_init_12 ?_
  generalize eM12 : j_up M5 x (.inr (4, [.ref (x + 1), .null, .null, .null, .int 0, .int 0, .int 0, .int 0, .int 0, .int 0, .int 0, .int 0, .int 0, .int 0, .int 0, .int 0])) = M12
  have h14 : M12 x = some (.inr (4, [.ref (x + 1), .null, .null, .null, .int 0, .int 0, .int 0, .int 0, .int 0, .int 0, .int 0, .int 0, .int 0, .int 0, .int 0, .int 0])) := by rw [← eM12]; exact j_up_self _ _ _
  have hp15 : EvAt M12 (x + 1) ([]) := hp8.frame (fun q h1 h2 => by rw [← eM12]; exact j_up_ne _ _ (by omega))
  refine j_aload_n X 0 dX4_init_15 rfl rfl ?_
  refine j_new X (ci := 0) (fs := [.null, .null, .null, .int 0]) rfl iwX4_init_X0 tyX0 tyX0_ok wdX4_init_cl7 wdX4_init_itX0 wdX4_init_inX0 dfX0 (by decide) (by decide) dX4_init_16 ?_
  generalize eM16 : j_up M12 (x + 5) (.inr (0, [.null, .null, .null, .int 0])) = M16
  have h17 : M16 x = some (.inr (4, [.ref (x + 1), .null, .null, .null, .int 0, .int 0, .int 0, .int 0, .int 0, .int 0, .int 0, .int 0, .int 0, .int 0, .int 0, .int 0])) := by rw [← eM16, j_up_ne _ _ (by omega)]; exact h14
  have h18 : M16 (x + 5) = some (.inr (0, [.null, .null, .null, .int 0])) := by rw [← eM16]; exact j_up_self _ _ _
  have hp19 : EvAt M16 (x + 1) ([]) := hp15.frame (fun q h1 h2 => by rw [← eM16]; exact j_up_ne _ _ (by omega))
  refine j_dup X dX4_init_19 rfl ?_
  refine j_callIN X nwSQ_ok (As := []) (rest := [.ref (x + 5), .ref x]) (b := x + 5) rfl (c_X0_init l D hI b0 (o := x + 5) rfl h18) rfl rfl gX4_init_X0_init_n9 wdX4_init_inX0 nlX4_9 wdX4_init_imX0_init rfl ddX0_init ⟨Nat.le_of_ble_eq_true rfl, Nat.le_of_ble_eq_true rfl⟩ (Nat.le_of_ble_eq_true rfl) rfl dX4_init_20 ⟨(by show 5 + 3 ≤ 12; omega), (by show 608 + 600 ≤ 3618; omega)⟩ (fun r20 M21 n22 hr23 => ?_)
  obtain ⟨rfl, hn26, hp24, hf25⟩ := hr23
  have hn26 : n22 = x + 9 := by omega
  subst hn26
  refine j_st (st := [.ref (x + 5), .ref x]) rfl ?_
  have hp27 : EvAt M21 (x + 1) ([]) := hp19.frame (fun q h1 h2 => hf25 q (by omega))
  have h28 : M21 x = some (.inr (4, [.ref (x + 1), .null, .null, .null, .int 0, .int 0, .int 0, .int 0, .int 0, .int 0, .int 0, .int 0, .int 0, .int 0, .int 0, .int 0])) := by rw [hf25 x (by omega)]; exact h17
  refine j_putF X h28 rfl iwX4_init_X4 tyX4 tyX4_ok nmX4 1 (by decide) lkX4_init_16 rfl hnm rfl rfl rfl (Nat.le_of_ble_eq_true rfl) (fs' := [.ref (x + 1), .ref (x + 5), .null, .null, .int 0, .int 0, .int 0, .int 0, .int 0, .int 0, .int 0, .int 0, .int 0, .int 0, .int 0, .int 0]) rfl dX4_init_23 ?_
  generalize eM29 : j_up M21 x (.inr (4, [.ref (x + 1), .ref (x + 5), .null, .null, .int 0, .int 0, .int 0, .int 0, .int 0, .int 0, .int 0, .int 0, .int 0, .int 0, .int 0, .int 0])) = M29
  have h31 : M29 x = some (.inr (4, [.ref (x + 1), .ref (x + 5), .null, .null, .int 0, .int 0, .int 0, .int 0, .int 0, .int 0, .int 0, .int 0, .int 0, .int 0, .int 0, .int 0])) := by rw [← eM29]; exact j_up_self _ _ _
  have hp32 : EvAt M29 (x + 1) ([]) := hp27.frame (fun q h1 h2 => by rw [← eM29]; exact j_up_ne _ _ (by omega))
  have hp33 : EvAt M29 (x + 5) ([]) := hp24.frame (fun q h1 h2 => by rw [← eM29]; exact j_up_ne _ _ (by omega))
  refine j_aload_n X 0 dX4_init_26 rfl rfl ?_
  refine j_new X (ci := 2) (fs := [.null]) rfl iwX4_init_X2 tyX2 tyX2_ok wdX4_init_cl19 wdX4_init_itX2 wdX4_init_inX2 dfX2 (by decide) (by decide) dX4_init_27 ?_
  generalize eM34 : j_up M29 (x + 9) (.inr (2, [.null])) = M34
  have h35 : M34 x = some (.inr (4, [.ref (x + 1), .ref (x + 5), .null, .null, .int 0, .int 0, .int 0, .int 0, .int 0, .int 0, .int 0, .int 0, .int 0, .int 0, .int 0, .int 0])) := by rw [← eM34, j_up_ne _ _ (by omega)]; exact h31
  have h36 : M34 (x + 9) = some (.inr (2, [.null])) := by rw [← eM34]; exact j_up_self _ _ _
  have hp37 : EvAt M34 (x + 1) ([]) := hp32.frame (fun q h1 h2 => by rw [← eM34]; exact j_up_ne _ _ (by omega))
  have hp38 : EvAt M34 (x + 5) ([]) := hp33.frame (fun q h1 h2 => by rw [← eM34]; exact j_up_ne _ _ (by omega))
  refine j_dup X dX4_init_30 rfl ?_
  refine j_callIN X nwSQ_ok (As := []) (rest := [.ref (x + 9), .ref x]) (b := x + 9) rfl (c_X2_init l D hI b0 (o := x + 9) rfl h36) rfl rfl gX4_init_X2_init_n21 wdX4_init_inX2 nlX4_21 wdX4_init_imX2_init rfl ddX2_init ⟨Nat.le_of_ble_eq_true rfl, Nat.le_of_ble_eq_true rfl⟩ (Nat.le_of_ble_eq_true rfl) rfl dX4_init_31 ⟨(by show 9 + 1 ≤ 12; omega), (by show 1209 + 6 ≤ 3618; omega)⟩ (fun r39 M40 n41 hr42 => ?_)
  obtain ⟨rfl, hn45, hp43, hf44⟩ := hr42
  have hn45 : n41 = x + 11 := by omega
  subst hn45
  refine j_st (st := [.ref (x + 9), .ref x]) rfl ?_
  have hp46 : EvAt M40 (x + 1) ([]) := hp37.frame (fun q h1 h2 => hf44 q (by omega))
  have hp47 : EvAt M40 (x + 5) ([]) := hp38.frame (fun q h1 h2 => hf44 q (by omega))
  have h48 : M40 x = some (.inr (4, [.ref (x + 1), .ref (x + 5), .null, .null, .int 0, .int 0, .int 0, .int 0, .int 0, .int 0, .int 0, .int 0, .int 0, .int 0, .int 0, .int 0])) := by rw [hf44 x (by omega)]; exact h35
  refine j_putF X h48 rfl iwX4_init_X4 tyX4 tyX4_ok nmX4 2 (by decide) lkX4_init_22 rfl hnm rfl rfl rfl (Nat.le_of_ble_eq_true rfl) (fs' := [.ref (x + 1), .ref (x + 5), .ref (x + 9), .null, .int 0, .int 0, .int 0, .int 0, .int 0, .int 0, .int 0, .int 0, .int 0, .int 0, .int 0, .int 0]) rfl dX4_init_34 ?_
  generalize eM49 : j_up M40 x (.inr (4, [.ref (x + 1), .ref (x + 5), .ref (x + 9), .null, .int 0, .int 0, .int 0, .int 0, .int 0, .int 0, .int 0, .int 0, .int 0, .int 0, .int 0, .int 0])) = M49
  have h51 : M49 x = some (.inr (4, [.ref (x + 1), .ref (x + 5), .ref (x + 9), .null, .int 0, .int 0, .int 0, .int 0, .int 0, .int 0, .int 0, .int 0, .int 0, .int 0, .int 0, .int 0])) := by rw [← eM49]; exact j_up_self _ _ _
  have hp52 : EvAt M49 (x + 1) ([]) := hp46.frame (fun q h1 h2 => by rw [← eM49]; exact j_up_ne _ _ (by omega))
  have hp53 : EvAt M49 (x + 5) ([]) := hp47.frame (fun q h1 h2 => by rw [← eM49]; exact j_up_ne _ _ (by omega))
  have hp54 : GrAt M49 (x + 9) ([]) := hp43.frame (fun q hq => by rw [← eM49]; exact j_up_ne _ _ (by rcases hq with rfl | rfl | ⟨z, hz, rfl⟩ <;> first | omega | (have := hnbE z hz; omega)))
  refine j_aload_n X 0 dX4_init_37 rfl rfl ?_
  refine j_new X (ci := 3) (fs := [.null, .int 0, .int 0]) rfl iwX4_init_X3 tyX3 tyX3_ok wdX4_init_cl26 wdX4_init_itX3 wdX4_init_inX3 dfX3 (by decide) (by decide) dX4_init_38 ?_
  generalize eM55 : j_up M49 (x + 11) (.inr (3, [.null, .int 0, .int 0])) = M55
  have h56 : M55 x = some (.inr (4, [.ref (x + 1), .ref (x + 5), .ref (x + 9), .null, .int 0, .int 0, .int 0, .int 0, .int 0, .int 0, .int 0, .int 0, .int 0, .int 0, .int 0, .int 0])) := by rw [← eM55, j_up_ne _ _ (by omega)]; exact h51
  have h57 : M55 (x + 11) = some (.inr (3, [.null, .int 0, .int 0])) := by rw [← eM55]; exact j_up_self _ _ _
  have hp58 : EvAt M55 (x + 1) ([]) := hp52.frame (fun q h1 h2 => by rw [← eM55]; exact j_up_ne _ _ (by omega))
  have hp59 : EvAt M55 (x + 5) ([]) := hp53.frame (fun q h1 h2 => by rw [← eM55]; exact j_up_ne _ _ (by omega))
  have hp60 : GrAt M55 (x + 9) ([]) := hp54.frame (fun q hq => by rw [← eM55]; exact j_up_ne _ _ (by rcases hq with rfl | rfl | ⟨z, hz, rfl⟩ <;> first | omega | (have := hnbE z hz; omega)))
  refine j_dup X dX4_init_41 rfl ?_
  refine j_callIN X nwSQ_ok (As := []) (rest := [.ref (x + 11), .ref x]) (b := x + 11) rfl (c_X3_init l D hI b0 (o := x + 11) rfl h57) rfl rfl gX4_init_X3_init_n28 wdX4_init_inX3 nlX4_28 wdX4_init_imX3_init rfl ddX3_init ⟨Nat.le_of_ble_eq_true rfl, Nat.le_of_ble_eq_true rfl⟩ (Nat.le_of_ble_eq_true rfl) rfl dX4_init_42 ⟨(by show 11 + 1 ≤ 12; omega), (by show 1218 + 2400 ≤ 3618; omega)⟩ (fun r61 M62 n63 hr64 => ?_)
  obtain ⟨rfl, hn67, hp65, hf66⟩ := hr64
  have hn67 : n63 = x + 13 := by omega
  subst hn67
  refine j_st (st := [.ref (x + 11), .ref x]) rfl ?_
  have hp68 : EvAt M62 (x + 1) ([]) := hp58.frame (fun q h1 h2 => hf66 q (by omega))
  have hp69 : EvAt M62 (x + 5) ([]) := hp59.frame (fun q h1 h2 => hf66 q (by omega))
  have hp70 : GrAt M62 (x + 9) ([]) := hp60.frame (fun q hq => hf66 q (by rcases hq with rfl | rfl | ⟨z, hz, rfl⟩ <;> first | omega | (have := hnbE z hz; omega)))
  have h71 : M62 x = some (.inr (4, [.ref (x + 1), .ref (x + 5), .ref (x + 9), .null, .int 0, .int 0, .int 0, .int 0, .int 0, .int 0, .int 0, .int 0, .int 0, .int 0, .int 0, .int 0])) := by rw [hf66 x (by omega)]; exact h56
  refine j_putF X h71 rfl iwX4_init_X4 tyX4 tyX4_ok nmX4 3 (by decide) lkX4_init_29 rfl hnm rfl rfl rfl (Nat.le_of_ble_eq_true rfl) (fs' := [.ref (x + 1), .ref (x + 5), .ref (x + 9), .ref (x + 11), .int 0, .int 0, .int 0, .int 0, .int 0, .int 0, .int 0, .int 0, .int 0, .int 0, .int 0, .int 0]) rfl dX4_init_45 ?_
  generalize eM72 : j_up M62 x (.inr (4, [.ref (x + 1), .ref (x + 5), .ref (x + 9), .ref (x + 11), .int 0, .int 0, .int 0, .int 0, .int 0, .int 0, .int 0, .int 0, .int 0, .int 0, .int 0, .int 0])) = M72
  have h74 : M72 x = some (.inr (4, [.ref (x + 1), .ref (x + 5), .ref (x + 9), .ref (x + 11), .int 0, .int 0, .int 0, .int 0, .int 0, .int 0, .int 0, .int 0, .int 0, .int 0, .int 0, .int 0])) := by rw [← eM72]; exact j_up_self _ _ _
  have hp75 : EvAt M72 (x + 1) ([]) := hp68.frame (fun q h1 h2 => by rw [← eM72]; exact j_up_ne _ _ (by omega))
  have hp76 : EvAt M72 (x + 5) ([]) := hp69.frame (fun q h1 h2 => by rw [← eM72]; exact j_up_ne _ _ (by omega))
  have hp77 : GrAt M72 (x + 9) ([]) := hp70.frame (fun q hq => by rw [← eM72]; exact j_up_ne _ _ (by rcases hq with rfl | rfl | ⟨z, hz, rfl⟩ <;> first | omega | (have := hnbE z hz; omega)))
  have hp78 : LnAt M72 (x + 11) ([]) := hp65.frame (fun q h1 h2 => by rw [← eM72]; exact j_up_ne _ _ (by omega))
  refine j_aload_n X 0 dX4_init_48 rfl rfl ?_
  refine j_bipush X dX4_init_49 (v := 10) (by decide) ?_
  refine j_put X h74 rfl iwX4_init_X4 tyX4 tyX4_ok nmX4 4 (by decide) lkX4_init_33 rfl rfl rfl (Nat.le_of_ble_eq_true rfl) (fs' := [.ref (x + 1), .ref (x + 5), .ref (x + 9), .ref (x + 11), .int 10, .int 0, .int 0, .int 0, .int 0, .int 0, .int 0, .int 0, .int 0, .int 0, .int 0, .int 0]) rfl dX4_init_51 ?_
  generalize eM79 : j_up M72 x (.inr (4, [.ref (x + 1), .ref (x + 5), .ref (x + 9), .ref (x + 11), .int 10, .int 0, .int 0, .int 0, .int 0, .int 0, .int 0, .int 0, .int 0, .int 0, .int 0, .int 0])) = M79
  have h81 : M79 x = some (.inr (4, [.ref (x + 1), .ref (x + 5), .ref (x + 9), .ref (x + 11), .int 10, .int 0, .int 0, .int 0, .int 0, .int 0, .int 0, .int 0, .int 0, .int 0, .int 0, .int 0])) := by rw [← eM79]; exact j_up_self _ _ _
  have hp82 : EvAt M79 (x + 1) ([]) := hp75.frame (fun q h1 h2 => by rw [← eM79]; exact j_up_ne _ _ (by omega))
  have hp83 : EvAt M79 (x + 5) ([]) := hp76.frame (fun q h1 h2 => by rw [← eM79]; exact j_up_ne _ _ (by omega))
  have hp84 : GrAt M79 (x + 9) ([]) := hp77.frame (fun q hq => by rw [← eM79]; exact j_up_ne _ _ (by rcases hq with rfl | rfl | ⟨z, hz, rfl⟩ <;> first | omega | (have := hnbE z hz; omega)))
  have hp85 : LnAt M79 (x + 11) ([]) := hp78.frame (fun q h1 h2 => by rw [← eM79]; exact j_up_ne _ _ (by omega))
  refine j_aload_n X 0 dX4_init_54 rfl rfl ?_
  refine j_bipush X dX4_init_55 (v := 10) (by decide) ?_
  refine j_put X h81 rfl iwX4_init_X4 tyX4 tyX4_ok nmX4 5 (by decide) lkX4_init_37 rfl rfl rfl (Nat.le_of_ble_eq_true rfl) (fs' := [.ref (x + 1), .ref (x + 5), .ref (x + 9), .ref (x + 11), .int 10, .int 10, .int 0, .int 0, .int 0, .int 0, .int 0, .int 0, .int 0, .int 0, .int 0, .int 0]) rfl dX4_init_57 ?_
  generalize eM86 : j_up M79 x (.inr (4, [.ref (x + 1), .ref (x + 5), .ref (x + 9), .ref (x + 11), .int 10, .int 10, .int 0, .int 0, .int 0, .int 0, .int 0, .int 0, .int 0, .int 0, .int 0, .int 0])) = M86
  have h88 : M86 x = some (.inr (4, [.ref (x + 1), .ref (x + 5), .ref (x + 9), .ref (x + 11), .int 10, .int 10, .int 0, .int 0, .int 0, .int 0, .int 0, .int 0, .int 0, .int 0, .int 0, .int 0])) := by rw [← eM86]; exact j_up_self _ _ _
  have hp89 : EvAt M86 (x + 1) ([]) := hp82.frame (fun q h1 h2 => by rw [← eM86]; exact j_up_ne _ _ (by omega))
  have hp90 : EvAt M86 (x + 5) ([]) := hp83.frame (fun q h1 h2 => by rw [← eM86]; exact j_up_ne _ _ (by omega))
  have hp91 : GrAt M86 (x + 9) ([]) := hp84.frame (fun q hq => by rw [← eM86]; exact j_up_ne _ _ (by rcases hq with rfl | rfl | ⟨z, hz, rfl⟩ <;> first | omega | (have := hnbE z hz; omega)))
  have hp92 : LnAt M86 (x + 11) ([]) := hp85.frame (fun q h1 h2 => by rw [← eM86]; exact j_up_ne _ _ (by omega))
  refine j_aload_n X 0 dX4_init_60 rfl rfl ?_
  refine j_iconst X dX4_init_61 (v := 0) (by decide) ?_
  refine j_put X h88 rfl iwX4_init_X4 tyX4 tyX4_ok nmX4 6 (by decide) lkX4_init_40 rfl rfl rfl (Nat.le_of_ble_eq_true rfl) (fs' := [.ref (x + 1), .ref (x + 5), .ref (x + 9), .ref (x + 11), .int 10, .int 10, .int 0, .int 0, .int 0, .int 0, .int 0, .int 0, .int 0, .int 0, .int 0, .int 0]) rfl dX4_init_62 ?_
  generalize eM93 : j_up M86 x (.inr (4, [.ref (x + 1), .ref (x + 5), .ref (x + 9), .ref (x + 11), .int 10, .int 10, .int 0, .int 0, .int 0, .int 0, .int 0, .int 0, .int 0, .int 0, .int 0, .int 0])) = M93
  have h95 : M93 x = some (.inr (4, [.ref (x + 1), .ref (x + 5), .ref (x + 9), .ref (x + 11), .int 10, .int 10, .int 0, .int 0, .int 0, .int 0, .int 0, .int 0, .int 0, .int 0, .int 0, .int 0])) := by rw [← eM93]; exact j_up_self _ _ _
  have hp96 : EvAt M93 (x + 1) ([]) := hp89.frame (fun q h1 h2 => by rw [← eM93]; exact j_up_ne _ _ (by omega))
  have hp97 : EvAt M93 (x + 5) ([]) := hp90.frame (fun q h1 h2 => by rw [← eM93]; exact j_up_ne _ _ (by omega))
  have hp98 : GrAt M93 (x + 9) ([]) := hp91.frame (fun q hq => by rw [← eM93]; exact j_up_ne _ _ (by rcases hq with rfl | rfl | ⟨z, hz, rfl⟩ <;> first | omega | (have := hnbE z hz; omega)))
  have hp99 : LnAt M93 (x + 11) ([]) := hp92.frame (fun q h1 h2 => by rw [← eM93]; exact j_up_ne _ _ (by omega))
  refine j_aload_n X 0 dX4_init_65 rfl rfl ?_
  refine j_iconst X dX4_init_66 (v := 0) (by decide) ?_
  refine j_put X h95 rfl iwX4_init_X4 tyX4 tyX4_ok nmX4 7 (by decide) lkX4_init_43 rfl rfl rfl (Nat.le_of_ble_eq_true rfl) (fs' := [.ref (x + 1), .ref (x + 5), .ref (x + 9), .ref (x + 11), .int 10, .int 10, .int 0, .int 0, .int 0, .int 0, .int 0, .int 0, .int 0, .int 0, .int 0, .int 0]) rfl dX4_init_67 ?_
  generalize eM100 : j_up M93 x (.inr (4, [.ref (x + 1), .ref (x + 5), .ref (x + 9), .ref (x + 11), .int 10, .int 10, .int 0, .int 0, .int 0, .int 0, .int 0, .int 0, .int 0, .int 0, .int 0, .int 0])) = M100
  have h102 : M100 x = some (.inr (4, [.ref (x + 1), .ref (x + 5), .ref (x + 9), .ref (x + 11), .int 10, .int 10, .int 0, .int 0, .int 0, .int 0, .int 0, .int 0, .int 0, .int 0, .int 0, .int 0])) := by rw [← eM100]; exact j_up_self _ _ _
  have hp103 : EvAt M100 (x + 1) ([]) := hp96.frame (fun q h1 h2 => by rw [← eM100]; exact j_up_ne _ _ (by omega))
  have hp104 : EvAt M100 (x + 5) ([]) := hp97.frame (fun q h1 h2 => by rw [← eM100]; exact j_up_ne _ _ (by omega))
  have hp105 : GrAt M100 (x + 9) ([]) := hp98.frame (fun q hq => by rw [← eM100]; exact j_up_ne _ _ (by rcases hq with rfl | rfl | ⟨z, hz, rfl⟩ <;> first | omega | (have := hnbE z hz; omega)))
  have hp106 : LnAt M100 (x + 11) ([]) := hp99.frame (fun q h1 h2 => by rw [← eM100]; exact j_up_ne _ _ (by omega))
  refine j_aload_n X 0 dX4_init_70 rfl rfl ?_
  refine j_bipush X dX4_init_71 (v := 100) (by decide) ?_
  refine j_put X h102 rfl iwX4_init_X4 tyX4 tyX4_ok nmX4 8 (by decide) lkX4_init_46 rfl rfl rfl (Nat.le_of_ble_eq_true rfl) (fs' := [.ref (x + 1), .ref (x + 5), .ref (x + 9), .ref (x + 11), .int 10, .int 10, .int 0, .int 0, .int 100, .int 0, .int 0, .int 0, .int 0, .int 0, .int 0, .int 0]) rfl dX4_init_73 ?_
  generalize eM107 : j_up M100 x (.inr (4, [.ref (x + 1), .ref (x + 5), .ref (x + 9), .ref (x + 11), .int 10, .int 10, .int 0, .int 0, .int 100, .int 0, .int 0, .int 0, .int 0, .int 0, .int 0, .int 0])) = M107
  have h109 : M107 x = some (.inr (4, [.ref (x + 1), .ref (x + 5), .ref (x + 9), .ref (x + 11), .int 10, .int 10, .int 0, .int 0, .int 100, .int 0, .int 0, .int 0, .int 0, .int 0, .int 0, .int 0])) := by rw [← eM107]; exact j_up_self _ _ _
  have hp110 : EvAt M107 (x + 1) ([]) := hp103.frame (fun q h1 h2 => by rw [← eM107]; exact j_up_ne _ _ (by omega))
  have hp111 : EvAt M107 (x + 5) ([]) := hp104.frame (fun q h1 h2 => by rw [← eM107]; exact j_up_ne _ _ (by omega))
  have hp112 : GrAt M107 (x + 9) ([]) := hp105.frame (fun q hq => by rw [← eM107]; exact j_up_ne _ _ (by rcases hq with rfl | rfl | ⟨z, hz, rfl⟩ <;> first | omega | (have := hnbE z hz; omega)))
  have hp113 : LnAt M107 (x + 11) ([]) := hp106.frame (fun q h1 h2 => by rw [← eM107]; exact j_up_ne _ _ (by omega))
  refine j_aload_n X 0 dX4_init_76 rfl rfl ?_
  refine j_sipush X dX4_init_77 (v := 200) (by decide) ?_
  refine j_put X h109 rfl iwX4_init_X4 tyX4 tyX4_ok nmX4 9 (by decide) lkX4_init_49 rfl rfl rfl (Nat.le_of_ble_eq_true rfl) (fs' := [.ref (x + 1), .ref (x + 5), .ref (x + 9), .ref (x + 11), .int 10, .int 10, .int 0, .int 0, .int 100, .int 200, .int 0, .int 0, .int 0, .int 0, .int 0, .int 0]) rfl dX4_init_80 ?_
  generalize eM114 : j_up M107 x (.inr (4, [.ref (x + 1), .ref (x + 5), .ref (x + 9), .ref (x + 11), .int 10, .int 10, .int 0, .int 0, .int 100, .int 200, .int 0, .int 0, .int 0, .int 0, .int 0, .int 0])) = M114
  have h116 : M114 x = some (.inr (4, [.ref (x + 1), .ref (x + 5), .ref (x + 9), .ref (x + 11), .int 10, .int 10, .int 0, .int 0, .int 100, .int 200, .int 0, .int 0, .int 0, .int 0, .int 0, .int 0])) := by rw [← eM114]; exact j_up_self _ _ _
  have hp117 : EvAt M114 (x + 1) ([]) := hp110.frame (fun q h1 h2 => by rw [← eM114]; exact j_up_ne _ _ (by omega))
  have hp118 : EvAt M114 (x + 5) ([]) := hp111.frame (fun q h1 h2 => by rw [← eM114]; exact j_up_ne _ _ (by omega))
  have hp119 : GrAt M114 (x + 9) ([]) := hp112.frame (fun q hq => by rw [← eM114]; exact j_up_ne _ _ (by rcases hq with rfl | rfl | ⟨z, hz, rfl⟩ <;> first | omega | (have := hnbE z hz; omega)))
  have hp120 : LnAt M114 (x + 11) ([]) := hp113.frame (fun q h1 h2 => by rw [← eM114]; exact j_up_ne _ _ (by omega))
  refine j_aload_n X 0 dX4_init_83 rfl rfl ?_
  refine j_callV X nwSQ_ok (As := []) (rest := []) h116 rfl rfl (c_X4_startAgain l D hI b0 (nb := nb) ⟨h116, hp117, hp118, hp119, hp120, List.nodup_nil, hnbE, hxn⟩) rfl gX4_init_X4_startAgain ⟨rfl, ddX4_startAgain⟩ ⟨Nat.le_of_ble_eq_true rfl, Nat.le_of_ble_eq_true rfl⟩ (Nat.le_of_ble_eq_true rfl) rfl dX4_init_84 ⟨(by show 12 + 0 ≤ 12; omega), (by show 3618 + 0 ≤ 3618; omega)⟩ (fun r121 M122 n123 hr124 => ?_)
  obtain ⟨rfl, rfl, hs2, hf2⟩ := hr124
  refine j_st (st := []) rfl ?_
  exact j_vret X hlk hr (by omega) (by omega) dX4_init_87 ⟨rfl, rfl, hs2, fun q hq => by rw [hf2 _ (by omega), ← eM114, j_up_ne _ _ (by omega), ← eM107, j_up_ne _ _ (by omega), ← eM100, j_up_ne _ _ (by omega), ← eM93, j_up_ne _ _ (by omega), ← eM86, j_up_ne _ _ (by omega), ← eM79, j_up_ne _ _ (by omega), ← eM72, j_up_ne _ _ (by omega), hf66 _ (by omega), ← eM55, j_up_ne _ _ (by omega), ← eM49, j_up_ne _ _ (by omega), hf44 _ (by omega), ← eM34, j_up_ne _ _ (by omega), ← eM29, j_up_ne _ _ (by omega), hf25 _ (by omega), ← eM16, j_up_ne _ _ (by omega), ← eM12, j_up_ne _ _ (by omega), hf9 _ (by omega), ← eM1, j_up_ne _ _ (by omega)]⟩
set_option maxHeartbeats 800000 in
set_option maxRecDepth 100000 in
theorem c_X4_markAN (l : Launch) (D : va_G) {ty : jT} {cA : ClassId} (hI : ty[0]? = some (cA, .int)) (b0 : Nat) {M : jM} {n x nb : Nat} {w sl la sp rm ln mA mB lt pr tl tk : Int32} {A B : List Ev} {cs : List Nd} {qu : List Rec} (h : SQ M x nb w sl la sp rm ln mA mB lt pr tl tk A B cs qu) (t : Int32) (hR : ¬ (if ¬ (-1000000000 ≤ t ∧ t ≤ 1000000000) then -2 else if t ≤ mA then -5 else 0 : Int32) = 0) : Ct l D ty vwCl nwSQ b0 yX4_markA wsX4_markA 3 74 0 0 [.ref x, .int t] M n (j_rd (.int (if ¬ (-1000000000 ≤ t ∧ t ≤ 1000000000) then -2 else if t ≤ mA then -5 else 0)) M n) := by
  obtain ⟨hx, hA, hB, hG, hQ, hnd, hnb, hxn⟩ := id h
  have hx : M x = some (.inr (4, [.ref (x + 1), .ref (x + 5), .ref (x + 9), .ref (x + 11), .int w, .int sl, .int la, .int sp, .int rm, .int ln, .int mA, .int mB, .int lt, .int pr, .int tl, .int tk])) := hx
  refine j_start (cc := cX4_markA) (maxL := 4) (ret := (some .int)) (by decide) rfl [some (.ref x), some (.int t), none, none] (Nat.le_of_ble_eq_true rfl) rfl ?_
  intro p e s m below meth c X hlk hr hnm
  refine j_iload_n X 1 dX4_markA_0 rfl rfl ?_
  refine j_aload_n X 0 dX4_markA_1 rfl rfl ?_
  refine j_get X hx rfl iwX4_markA_X4 10 (by decide) lkX4_markA_97 rfl dX4_markA_2 ?_
  refine j_callS X nwSQ_ok (As := [.int t, .int mA]) (rest := []) rfl (c_X4_refusalOfMark l D hI b0 t mA) rfl gX4_markA_X4_refusalOfMark ddX4_refusalOfMark ⟨Nat.le_of_ble_eq_true rfl, Nat.le_of_ble_eq_true rfl⟩ (Nat.le_of_ble_eq_true rfl) rfl dX4_markA_5 ⟨(by show 0 + 0 ≤ 0; omega), (by show 0 + 0 ≤ 0; omega)⟩ (fun r125 M126 n127 hr128 => ?_)
  obtain ⟨rfl, rfl, rfl⟩ := hr128
  refine j_st (st := [.int (if ¬ (-1000000000 ≤ t ∧ t ≤ 1000000000) then -2 else if t ≤ mA then -5 else 0)]) rfl ?_
  refine j_istore_n X 2 dX4_markA_8 rfl (by decide) rfl (L' := [some (.ref x), some (.int t), some (.int (if ¬ (-1000000000 ≤ t ∧ t ≤ 1000000000) then -2 else if t ≤ mA then -5 else 0)), none]) rfl ?_
  refine j_iload_n X 2 dX4_markA_9 rfl rfl ?_
  refine j_if_eq X 15 dX4_markA_10 (by decide) (fun c129 => ?_) (fun c129 => ?_)
  · skip
    exact absurd c129 hR
  · skip
    refine j_iload_n X 2 dX4_markA_13 rfl rfl ?_
    exact j_iret X hlk hr (by omega) (by omega) dX4_markA_14 ⟨rfl, rfl, rfl⟩
set_option maxHeartbeats 800000 in
set_option maxRecDepth 100000 in
theorem c_X4_markAF (l : Launch) (D : va_G) {ty : jT} {cA : ClassId} (hI : ty[0]? = some (cA, .int)) (b0 : Nat) {M : jM} {n x nb : Nat} {w sl la sp rm ln mA mB lt pr tl tk : Int32} {A B : List Ev} {cs : List Nd} {qu : List Rec} (h : SQ M x nb w sl la sp rm ln mA mB lt pr tl tk A B cs qu) (t : Int32) (hR : (if ¬ (-1000000000 ≤ t ∧ t ≤ 1000000000) then -2 else if t ≤ mA then -5 else 0 : Int32) = 0) (hN : ¬ nI (qu.length + (cs.takeWhile (fun x : Nd => decide (x.2.1 ≤ mn t mB - la))).length) ≤ ln) : Ct l D ty vwCl nwSQ b0 yX4_markA wsX4_markA 3 74 0 0 [.ref x, .int t] M n (j_rd (.int (-3)) M n) := by
  obtain ⟨hx, hA, hB, hG, hQ, hnd, hnb, hxn⟩ := id h
  have hx : M x = some (.inr (4, [.ref (x + 1), .ref (x + 5), .ref (x + 9), .ref (x + 11), .int w, .int sl, .int la, .int sp, .int rm, .int ln, .int mA, .int mB, .int lt, .int pr, .int tl, .int tk])) := hx
  refine j_start (cc := cX4_markA) (maxL := 4) (ret := (some .int)) (by decide) rfl [some (.ref x), some (.int t), none, none] (Nat.le_of_ble_eq_true rfl) rfl ?_
  intro p e s m below meth c X hlk hr hnm
  refine j_iload_n X 1 dX4_markA_0 rfl rfl ?_
  refine j_aload_n X 0 dX4_markA_1 rfl rfl ?_
  refine j_get X hx rfl iwX4_markA_X4 10 (by decide) lkX4_markA_97 rfl dX4_markA_2 ?_
  refine j_callS X nwSQ_ok (As := [.int t, .int mA]) (rest := []) rfl (c_X4_refusalOfMark l D hI b0 t mA) rfl gX4_markA_X4_refusalOfMark ddX4_refusalOfMark ⟨Nat.le_of_ble_eq_true rfl, Nat.le_of_ble_eq_true rfl⟩ (Nat.le_of_ble_eq_true rfl) rfl dX4_markA_5 ⟨(by show 0 + 0 ≤ 0; omega), (by show 0 + 0 ≤ 0; omega)⟩ (fun r130 M131 n132 hr133 => ?_)
  obtain ⟨rfl, rfl, rfl⟩ := hr133
  refine j_st (st := [.int 0]) (by rw [hR]; rfl) ?_
  refine j_istore_n X 2 dX4_markA_8 rfl (by decide) rfl (L' := [some (.ref x), some (.int t), some (.int 0), none]) rfl ?_
  refine j_iload_n X 2 dX4_markA_9 rfl rfl ?_
  refine j_if_eq X 15 dX4_markA_10 (by decide) (fun c134 => ?_) (fun c134 => ?_)
  · skip
    refine j_aload_n X 0 dX4_markA_15 rfl rfl ?_
    refine j_iload_n X 1 dX4_markA_16 rfl rfl ?_
    refine j_aload_n X 0 dX4_markA_17 rfl rfl ?_
    refine j_get X hx rfl iwX4_markA_X4 11 (by decide) lkX4_markA_104 rfl dX4_markA_18 ?_
    refine j_min X wdX4_markA_mmin0 wdX4_markA_mmin1 wdX4_markA_mmin2 wdX4_markA_mmin3 (Nat.le_of_ble_eq_true rfl) (Nat.le_of_ble_eq_true rfl) (by omega) (by omega) dX4_markA_21 ?_
    refine j_st (st := [.int (mn t mB), .ref x]) rfl ?_
    refine j_callV X nwSQ_ok (As := [.int (mn t mB)]) (rest := []) hx rfl rfl (c_X4_tellF l D hI b0 h (mn t mB) hN) rfl gX4_markA_X4_tellWindows ⟨rfl, ddX4_tellWindows⟩ ⟨Nat.le_of_ble_eq_true rfl, Nat.le_of_ble_eq_true rfl⟩ (Nat.le_of_ble_eq_true rfl) rfl dX4_markA_24 ⟨(by show 0 + 0 ≤ 0; omega), (by show 0 + 0 ≤ 0; omega)⟩ (fun r135 M136 n137 hr138 => ?_)
    obtain ⟨rfl, rfl, rfl⟩ := hr138
    refine j_st (st := [.int (-3)]) rfl ?_
    refine j_istore_n X 3 dX4_markA_27 rfl (by decide) rfl (L' := [some (.ref x), some (.int t), some (.int 0), some (.int (-3))]) rfl ?_
    refine j_iload_n X 3 dX4_markA_28 rfl rfl ?_
    refine j_bipush X dX4_markA_29 (v := (-3)) (by decide) ?_
    refine j_icmp_ne X 37 dX4_markA_31 (by decide) (fun c139 => ?_) (fun c139 => ?_)
    · skip
      exact absurd rfl c139
    · skip
      refine j_bipush X dX4_markA_34 (v := (-3)) (by decide) ?_
      exact j_iret X hlk hr (by omega) (by omega) dX4_markA_36 ⟨rfl, rfl, rfl⟩
  · skip
    exact absurd rfl c134
set_option maxHeartbeats 800000 in
set_option maxRecDepth 100000 in
theorem c_X4_markAT (l : Launch) (D : va_G) {ty : jT} {cA : ClassId} (hI : ty[0]? = some (cA, .int)) (b0 : Nat) {M : jM} {n x nb : Nat} {w sl la sp rm ln mA mB lt pr tl tk : Int32} {A B : List Ev} {cs : List Nd} {qu : List Rec} (h : SQ M x nb w sl la sp rm ln mA mB lt pr tl tk A B cs qu) (t : Int32) (hR : (if ¬ (-1000000000 ≤ t ∧ t ≤ 1000000000) then -2 else if t ≤ mA then -5 else 0 : Int32) = 0) (hN : nI (qu.length + (cs.takeWhile (fun x : Nd => decide (x.2.1 ≤ mn t mB - la))).length) ≤ ln) (hln : qu.length + (cs.takeWhile (fun x : Nd => decide (x.2.1 ≤ mn t mB - la))).length ≤ 400) (hw : wcn (mn t mB - la) (-2147483648) cs < 1000000) (hsl : 1 ≤ sl) : Ct l D ty vwCl nwSQ b0 yX4_markA wsX4_markA 3 74 0 0 [.ref x, .int t] M n (fun r M' n' => r = some (.int (nI (wcn (mn t mB - la) (-2147483648) cs))) ∧ n = n' ∧ SQ M' x nb w sl la sp rm ln t mB lt pr (tl + nI (cs.takeWhile (fun x : Nd => decide (x.2.1 ≤ mn t mB - la))).length) tk (A.filter (fun e : Ev => decide (mn (mn t mB - la - sp) ((fd (mn t mB - la - w) sl + 1) * sl) ≤ e.1))) (B.filter (fun e : Ev => decide (mn t mB - la - sp ≤ e.1))) (cs.drop (cs.takeWhile (fun x : Nd => decide (x.2.1 ≤ mn t mB - la))).length) (qu ++ (cs.take (cs.takeWhile (fun x : Nd => decide (x.2.1 ≤ mn t mB - la))).length).map (fun y : Nd => ((1, y.2) : Rec))) ∧ ∀ q, (q < x ∨ x + 12 < q ∧ q < nb) → M' q = M q) := by
  obtain ⟨hx, hA, hB, hG, hQ, hnd, hnb, hxn⟩ := id h
  have hx : M x = some (.inr (4, [.ref (x + 1), .ref (x + 5), .ref (x + 9), .ref (x + 11), .int w, .int sl, .int la, .int sp, .int rm, .int ln, .int mA, .int mB, .int lt, .int pr, .int tl, .int tk])) := hx
  refine j_start (cc := cX4_markA) (maxL := 4) (ret := (some .int)) (by decide) rfl [some (.ref x), some (.int t), none, none] (Nat.le_of_ble_eq_true rfl) rfl ?_
  intro p e s m below meth c X hlk hr hnm
  refine j_iload_n X 1 dX4_markA_0 rfl rfl ?_
  refine j_aload_n X 0 dX4_markA_1 rfl rfl ?_
  refine j_get X hx rfl iwX4_markA_X4 10 (by decide) lkX4_markA_97 rfl dX4_markA_2 ?_
  refine j_callS X nwSQ_ok (As := [.int t, .int mA]) (rest := []) rfl (c_X4_refusalOfMark l D hI b0 t mA) rfl gX4_markA_X4_refusalOfMark ddX4_refusalOfMark ⟨Nat.le_of_ble_eq_true rfl, Nat.le_of_ble_eq_true rfl⟩ (Nat.le_of_ble_eq_true rfl) rfl dX4_markA_5 ⟨(by show 0 + 0 ≤ 0; omega), (by show 0 + 0 ≤ 0; omega)⟩ (fun r140 M141 n142 hr143 => ?_)
  obtain ⟨rfl, rfl, rfl⟩ := hr143
  refine j_st (st := [.int 0]) (by rw [hR]; rfl) ?_
  refine j_istore_n X 2 dX4_markA_8 rfl (by decide) rfl (L' := [some (.ref x), some (.int t), some (.int 0), none]) rfl ?_
  refine j_iload_n X 2 dX4_markA_9 rfl rfl ?_
  refine j_if_eq X 15 dX4_markA_10 (by decide) (fun c144 => ?_) (fun c144 => ?_)
  · skip
    refine j_aload_n X 0 dX4_markA_15 rfl rfl ?_
    refine j_iload_n X 1 dX4_markA_16 rfl rfl ?_
    refine j_aload_n X 0 dX4_markA_17 rfl rfl ?_
    refine j_get X hx rfl iwX4_markA_X4 11 (by decide) lkX4_markA_104 rfl dX4_markA_18 ?_
    refine j_min X wdX4_markA_mmin0 wdX4_markA_mmin1 wdX4_markA_mmin2 wdX4_markA_mmin3 (Nat.le_of_ble_eq_true rfl) (Nat.le_of_ble_eq_true rfl) (by omega) (by omega) dX4_markA_21 ?_
    refine j_st (st := [.int (mn t mB), .ref x]) rfl ?_
    refine j_callV X nwSQ_ok (As := [.int (mn t mB)]) (rest := []) hx rfl rfl (c_X4_tellT l D hI b0 h (mn t mB) hN hln) rfl gX4_markA_X4_tellWindows ⟨rfl, ddX4_tellWindows⟩ ⟨Nat.le_of_ble_eq_true rfl, Nat.le_of_ble_eq_true rfl⟩ (Nat.le_of_ble_eq_true rfl) rfl dX4_markA_24 ⟨(by show 0 + 0 ≤ 0; omega), (by show 0 + 0 ≤ 0; omega)⟩ (fun r145 M146 n147 hr148 => ?_)
    obtain ⟨rfl, rfl, ⟨hx2, hA2, hB2, hG2, hQ2, hnd2, hnb2, _⟩, hf2⟩ := hr148
    refine j_st (st := [.int (nI (wcn (mn t mB - la) (-2147483648) cs))]) rfl ?_
    have hx2 : M146 x = some (.inr (4, [.ref (x + 1), .ref (x + 5), .ref (x + 9), .ref (x + 11), .int w, .int sl, .int la, .int sp, .int rm, .int ln, .int mA, .int mB, .int lt, .int pr, .int (tl + nI (cs.takeWhile (fun x : Nd => decide (x.2.1 ≤ mn t mB - la))).length), .int tk])) := hx2
    refine j_istore_n X 3 dX4_markA_27 rfl (by decide) rfl (L' := [some (.ref x), some (.int t), some (.int 0), some (.int (nI (wcn (mn t mB - la) (-2147483648) cs)))]) rfl ?_
    refine j_iload_n X 3 dX4_markA_28 rfl rfl ?_
    refine j_bipush X dX4_markA_29 (v := (-3)) (by decide) ?_
    refine j_icmp_ne X 37 dX4_markA_31 (by decide) (fun c149 => ?_) (fun c149 => ?_)
    · skip
      refine j_aload_n X 0 dX4_markA_37 rfl rfl ?_
      refine j_iload_n X 1 dX4_markA_38 rfl rfl ?_
      refine j_put X hx2 rfl iwX4_markA_X4 tyX4 tyX4_ok nmX4 10 (by decide) lkX4_markA_97 rfl rfl rfl (Nat.le_of_ble_eq_true rfl) (fs' := [.ref (x + 1), .ref (x + 5), .ref (x + 9), .ref (x + 11), .int w, .int sl, .int la, .int sp, .int rm, .int ln, .int t, .int mB, .int lt, .int pr, .int (tl + nI (cs.takeWhile (fun x : Nd => decide (x.2.1 ≤ mn t mB - la))).length), .int tk]) rfl dX4_markA_39 ?_
      generalize eM150 : j_up M146 x (.inr (4, [.ref (x + 1), .ref (x + 5), .ref (x + 9), .ref (x + 11), .int w, .int sl, .int la, .int sp, .int rm, .int ln, .int t, .int mB, .int lt, .int pr, .int (tl + nI (cs.takeWhile (fun x : Nd => decide (x.2.1 ≤ mn t mB - la))).length), .int tk])) = M150
      have h152 : M150 x = some (.inr (4, [.ref (x + 1), .ref (x + 5), .ref (x + 9), .ref (x + 11), .int w, .int sl, .int la, .int sp, .int rm, .int ln, .int t, .int mB, .int lt, .int pr, .int (tl + nI (cs.takeWhile (fun x : Nd => decide (x.2.1 ≤ mn t mB - la))).length), .int tk])) := by rw [← eM150]; exact j_up_self _ _ _
      have hp153 : EvAt M150 (x + 1) A := hA2.frame (fun q h1 h2 => by rw [← eM150]; exact j_up_ne _ _ (by omega))
      have hp154 : EvAt M150 (x + 5) B := hB2.frame (fun q h1 h2 => by rw [← eM150]; exact j_up_ne _ _ (by omega))
      have hp155 : GrAt M150 (x + 9) (cs.drop (cs.takeWhile (fun x : Nd => decide (x.2.1 ≤ mn t mB - la))).length) := hG2.frame (fun q hq => by rw [← eM150]; exact j_up_ne _ _ (by rcases hq with rfl | rfl | ⟨z, hz, rfl⟩ <;> first | omega | (have := hnb2 z hz; omega)))
      have hp156 : LnAt M150 (x + 11) (qu ++ (cs.take (cs.takeWhile (fun x : Nd => decide (x.2.1 ≤ mn t mB - la))).length).map (fun y : Nd => ((1, y.2) : Rec))) := hQ2.frame (fun q h1 h2 => by rw [← eM150]; exact j_up_ne _ _ (by omega))
      refine j_aload_n X 0 dX4_markA_42 rfl rfl ?_
      refine j_callV X nwSQ_ok (As := []) (rest := []) h152 rfl rfl (c_X4_dropEvents l D hI b0 (nb := nb) ⟨h152, hp153, hp154, hp155, hp156, hnd2, hnb2, hxn⟩ hsl) rfl gX4_markA_X4_dropEvents ⟨rfl, ddX4_dropEvents⟩ ⟨Nat.le_of_ble_eq_true rfl, Nat.le_of_ble_eq_true rfl⟩ (Nat.le_of_ble_eq_true rfl) rfl dX4_markA_43 ⟨(by show 0 + 0 ≤ 0; omega), (by show 0 + 0 ≤ 0; omega)⟩ (fun r157 M158 n159 hr160 => ?_)
      obtain ⟨rfl, rfl, hs3, hf3⟩ := hr160
      refine j_st (st := []) rfl ?_
      refine j_iload_n X 3 dX4_markA_46 rfl rfl ?_
      exact j_iret X hlk hr (by omega) (by omega) dX4_markA_47 ⟨rfl, rfl, hs3, fun q hq => by rw [hf3 _ (by omega), ← eM150, j_up_ne _ _ (by omega), hf2 _ (by omega)]⟩
    · skip
      exact absurd (show (0 : Int32) ≤ nI (wcn (mn t mB - la) (-2147483648) cs) from nI_pos' (by omega)) (by rw [c149]; decide)
  · skip
    exact absurd rfl c144
set_option maxHeartbeats 800000 in
set_option maxRecDepth 100000 in
theorem c_X4_markBN (l : Launch) (D : va_G) {ty : jT} {cA : ClassId} (hI : ty[0]? = some (cA, .int)) (b0 : Nat) {M : jM} {n x nb : Nat} {w sl la sp rm ln mA mB lt pr tl tk : Int32} {A B : List Ev} {cs : List Nd} {qu : List Rec} (h : SQ M x nb w sl la sp rm ln mA mB lt pr tl tk A B cs qu) (t : Int32) (hR : ¬ (if ¬ (-1000000000 ≤ t ∧ t ≤ 1000000000) then -2 else if t ≤ mB then -5 else 0 : Int32) = 0) : Ct l D ty vwCl nwSQ b0 yX4_markB wsX4_markB 3 74 0 0 [.ref x, .int t] M n (j_rd (.int (if ¬ (-1000000000 ≤ t ∧ t ≤ 1000000000) then -2 else if t ≤ mB then -5 else 0)) M n) := by
  obtain ⟨hx, hA, hB, hG, hQ, hnd, hnb, hxn⟩ := id h
  have hx : M x = some (.inr (4, [.ref (x + 1), .ref (x + 5), .ref (x + 9), .ref (x + 11), .int w, .int sl, .int la, .int sp, .int rm, .int ln, .int mA, .int mB, .int lt, .int pr, .int tl, .int tk])) := hx
  refine j_start (cc := cX4_markB) (maxL := 4) (ret := (some .int)) (by decide) rfl [some (.ref x), some (.int t), none, none] (Nat.le_of_ble_eq_true rfl) rfl ?_
  intro p e s m below meth c X hlk hr hnm
  refine j_iload_n X 1 dX4_markB_0 rfl rfl ?_
  refine j_aload_n X 0 dX4_markB_1 rfl rfl ?_
  refine j_get X hx rfl iwX4_markB_X4 11 (by decide) lkX4_markB_104 rfl dX4_markB_2 ?_
  refine j_callS X nwSQ_ok (As := [.int t, .int mB]) (rest := []) rfl (c_X4_refusalOfMark l D hI b0 t mB) rfl gX4_markB_X4_refusalOfMark ddX4_refusalOfMark ⟨Nat.le_of_ble_eq_true rfl, Nat.le_of_ble_eq_true rfl⟩ (Nat.le_of_ble_eq_true rfl) rfl dX4_markB_5 ⟨(by show 0 + 0 ≤ 0; omega), (by show 0 + 0 ≤ 0; omega)⟩ (fun r161 M162 n163 hr164 => ?_)
  obtain ⟨rfl, rfl, rfl⟩ := hr164
  refine j_st (st := [.int (if ¬ (-1000000000 ≤ t ∧ t ≤ 1000000000) then -2 else if t ≤ mB then -5 else 0)]) rfl ?_
  refine j_istore_n X 2 dX4_markB_8 rfl (by decide) rfl (L' := [some (.ref x), some (.int t), some (.int (if ¬ (-1000000000 ≤ t ∧ t ≤ 1000000000) then -2 else if t ≤ mB then -5 else 0)), none]) rfl ?_
  refine j_iload_n X 2 dX4_markB_9 rfl rfl ?_
  refine j_if_eq X 15 dX4_markB_10 (by decide) (fun c165 => ?_) (fun c165 => ?_)
  · skip
    exact absurd c165 hR
  · skip
    refine j_iload_n X 2 dX4_markB_13 rfl rfl ?_
    exact j_iret X hlk hr (by omega) (by omega) dX4_markB_14 ⟨rfl, rfl, rfl⟩
set_option maxHeartbeats 800000 in
set_option maxRecDepth 100000 in
theorem c_X4_markBF (l : Launch) (D : va_G) {ty : jT} {cA : ClassId} (hI : ty[0]? = some (cA, .int)) (b0 : Nat) {M : jM} {n x nb : Nat} {w sl la sp rm ln mA mB lt pr tl tk : Int32} {A B : List Ev} {cs : List Nd} {qu : List Rec} (h : SQ M x nb w sl la sp rm ln mA mB lt pr tl tk A B cs qu) (t : Int32) (hR : (if ¬ (-1000000000 ≤ t ∧ t ≤ 1000000000) then -2 else if t ≤ mB then -5 else 0 : Int32) = 0) (hN : ¬ nI (qu.length + (cs.takeWhile (fun x : Nd => decide (x.2.1 ≤ mn mA t - la))).length) ≤ ln) : Ct l D ty vwCl nwSQ b0 yX4_markB wsX4_markB 3 74 0 0 [.ref x, .int t] M n (j_rd (.int (-3)) M n) := by
  obtain ⟨hx, hA, hB, hG, hQ, hnd, hnb, hxn⟩ := id h
  have hx : M x = some (.inr (4, [.ref (x + 1), .ref (x + 5), .ref (x + 9), .ref (x + 11), .int w, .int sl, .int la, .int sp, .int rm, .int ln, .int mA, .int mB, .int lt, .int pr, .int tl, .int tk])) := hx
  refine j_start (cc := cX4_markB) (maxL := 4) (ret := (some .int)) (by decide) rfl [some (.ref x), some (.int t), none, none] (Nat.le_of_ble_eq_true rfl) rfl ?_
  intro p e s m below meth c X hlk hr hnm
  refine j_iload_n X 1 dX4_markB_0 rfl rfl ?_
  refine j_aload_n X 0 dX4_markB_1 rfl rfl ?_
  refine j_get X hx rfl iwX4_markB_X4 11 (by decide) lkX4_markB_104 rfl dX4_markB_2 ?_
  refine j_callS X nwSQ_ok (As := [.int t, .int mB]) (rest := []) rfl (c_X4_refusalOfMark l D hI b0 t mB) rfl gX4_markB_X4_refusalOfMark ddX4_refusalOfMark ⟨Nat.le_of_ble_eq_true rfl, Nat.le_of_ble_eq_true rfl⟩ (Nat.le_of_ble_eq_true rfl) rfl dX4_markB_5 ⟨(by show 0 + 0 ≤ 0; omega), (by show 0 + 0 ≤ 0; omega)⟩ (fun r166 M167 n168 hr169 => ?_)
  obtain ⟨rfl, rfl, rfl⟩ := hr169
  refine j_st (st := [.int 0]) (by rw [hR]; rfl) ?_
  refine j_istore_n X 2 dX4_markB_8 rfl (by decide) rfl (L' := [some (.ref x), some (.int t), some (.int 0), none]) rfl ?_
  refine j_iload_n X 2 dX4_markB_9 rfl rfl ?_
  refine j_if_eq X 15 dX4_markB_10 (by decide) (fun c170 => ?_) (fun c170 => ?_)
  · skip
    refine j_aload_n X 0 dX4_markB_15 rfl rfl ?_
    refine j_aload_n X 0 dX4_markB_16 rfl rfl ?_
    refine j_get X hx rfl iwX4_markB_X4 10 (by decide) lkX4_markB_97 rfl dX4_markB_17 ?_
    refine j_iload_n X 1 dX4_markB_20 rfl rfl ?_
    refine j_min X wdX4_markB_mmin0 wdX4_markB_mmin1 wdX4_markB_mmin2 wdX4_markB_mmin3 (Nat.le_of_ble_eq_true rfl) (Nat.le_of_ble_eq_true rfl) (by omega) (by omega) dX4_markB_21 ?_
    refine j_st (st := [.int (mn mA t), .ref x]) rfl ?_
    refine j_callV X nwSQ_ok (As := [.int (mn mA t)]) (rest := []) hx rfl rfl (c_X4_tellF l D hI b0 h (mn mA t) hN) rfl gX4_markB_X4_tellWindows ⟨rfl, ddX4_tellWindows⟩ ⟨Nat.le_of_ble_eq_true rfl, Nat.le_of_ble_eq_true rfl⟩ (Nat.le_of_ble_eq_true rfl) rfl dX4_markB_24 ⟨(by show 0 + 0 ≤ 0; omega), (by show 0 + 0 ≤ 0; omega)⟩ (fun r171 M172 n173 hr174 => ?_)
    obtain ⟨rfl, rfl, rfl⟩ := hr174
    refine j_st (st := [.int (-3)]) rfl ?_
    refine j_istore_n X 3 dX4_markB_27 rfl (by decide) rfl (L' := [some (.ref x), some (.int t), some (.int 0), some (.int (-3))]) rfl ?_
    refine j_iload_n X 3 dX4_markB_28 rfl rfl ?_
    refine j_bipush X dX4_markB_29 (v := (-3)) (by decide) ?_
    refine j_icmp_ne X 37 dX4_markB_31 (by decide) (fun c175 => ?_) (fun c175 => ?_)
    · skip
      exact absurd rfl c175
    · skip
      refine j_bipush X dX4_markB_34 (v := (-3)) (by decide) ?_
      exact j_iret X hlk hr (by omega) (by omega) dX4_markB_36 ⟨rfl, rfl, rfl⟩
  · skip
    exact absurd rfl c170
set_option maxHeartbeats 800000 in
set_option maxRecDepth 100000 in
theorem c_X4_markBT (l : Launch) (D : va_G) {ty : jT} {cA : ClassId} (hI : ty[0]? = some (cA, .int)) (b0 : Nat) {M : jM} {n x nb : Nat} {w sl la sp rm ln mA mB lt pr tl tk : Int32} {A B : List Ev} {cs : List Nd} {qu : List Rec} (h : SQ M x nb w sl la sp rm ln mA mB lt pr tl tk A B cs qu) (t : Int32) (hR : (if ¬ (-1000000000 ≤ t ∧ t ≤ 1000000000) then -2 else if t ≤ mB then -5 else 0 : Int32) = 0) (hN : nI (qu.length + (cs.takeWhile (fun x : Nd => decide (x.2.1 ≤ mn mA t - la))).length) ≤ ln) (hln : qu.length + (cs.takeWhile (fun x : Nd => decide (x.2.1 ≤ mn mA t - la))).length ≤ 400) (hw : wcn (mn mA t - la) (-2147483648) cs < 1000000) (hsl : 1 ≤ sl) : Ct l D ty vwCl nwSQ b0 yX4_markB wsX4_markB 3 74 0 0 [.ref x, .int t] M n (fun r M' n' => r = some (.int (nI (wcn (mn mA t - la) (-2147483648) cs))) ∧ n = n' ∧ SQ M' x nb w sl la sp rm ln mA t lt pr (tl + nI (cs.takeWhile (fun x : Nd => decide (x.2.1 ≤ mn mA t - la))).length) tk (A.filter (fun e : Ev => decide (mn (mn mA t - la - sp) ((fd (mn mA t - la - w) sl + 1) * sl) ≤ e.1))) (B.filter (fun e : Ev => decide (mn mA t - la - sp ≤ e.1))) (cs.drop (cs.takeWhile (fun x : Nd => decide (x.2.1 ≤ mn mA t - la))).length) (qu ++ (cs.take (cs.takeWhile (fun x : Nd => decide (x.2.1 ≤ mn mA t - la))).length).map (fun y : Nd => ((1, y.2) : Rec))) ∧ ∀ q, (q < x ∨ x + 12 < q ∧ q < nb) → M' q = M q) := by
  obtain ⟨hx, hA, hB, hG, hQ, hnd, hnb, hxn⟩ := id h
  have hx : M x = some (.inr (4, [.ref (x + 1), .ref (x + 5), .ref (x + 9), .ref (x + 11), .int w, .int sl, .int la, .int sp, .int rm, .int ln, .int mA, .int mB, .int lt, .int pr, .int tl, .int tk])) := hx
  refine j_start (cc := cX4_markB) (maxL := 4) (ret := (some .int)) (by decide) rfl [some (.ref x), some (.int t), none, none] (Nat.le_of_ble_eq_true rfl) rfl ?_
  intro p e s m below meth c X hlk hr hnm
  refine j_iload_n X 1 dX4_markB_0 rfl rfl ?_
  refine j_aload_n X 0 dX4_markB_1 rfl rfl ?_
  refine j_get X hx rfl iwX4_markB_X4 11 (by decide) lkX4_markB_104 rfl dX4_markB_2 ?_
  refine j_callS X nwSQ_ok (As := [.int t, .int mB]) (rest := []) rfl (c_X4_refusalOfMark l D hI b0 t mB) rfl gX4_markB_X4_refusalOfMark ddX4_refusalOfMark ⟨Nat.le_of_ble_eq_true rfl, Nat.le_of_ble_eq_true rfl⟩ (Nat.le_of_ble_eq_true rfl) rfl dX4_markB_5 ⟨(by show 0 + 0 ≤ 0; omega), (by show 0 + 0 ≤ 0; omega)⟩ (fun r176 M177 n178 hr179 => ?_)
  obtain ⟨rfl, rfl, rfl⟩ := hr179
  refine j_st (st := [.int 0]) (by rw [hR]; rfl) ?_
  refine j_istore_n X 2 dX4_markB_8 rfl (by decide) rfl (L' := [some (.ref x), some (.int t), some (.int 0), none]) rfl ?_
  refine j_iload_n X 2 dX4_markB_9 rfl rfl ?_
  refine j_if_eq X 15 dX4_markB_10 (by decide) (fun c180 => ?_) (fun c180 => ?_)
  · skip
    refine j_aload_n X 0 dX4_markB_15 rfl rfl ?_
    refine j_aload_n X 0 dX4_markB_16 rfl rfl ?_
    refine j_get X hx rfl iwX4_markB_X4 10 (by decide) lkX4_markB_97 rfl dX4_markB_17 ?_
    refine j_iload_n X 1 dX4_markB_20 rfl rfl ?_
    refine j_min X wdX4_markB_mmin0 wdX4_markB_mmin1 wdX4_markB_mmin2 wdX4_markB_mmin3 (Nat.le_of_ble_eq_true rfl) (Nat.le_of_ble_eq_true rfl) (by omega) (by omega) dX4_markB_21 ?_
    refine j_st (st := [.int (mn mA t), .ref x]) rfl ?_
    refine j_callV X nwSQ_ok (As := [.int (mn mA t)]) (rest := []) hx rfl rfl (c_X4_tellT l D hI b0 h (mn mA t) hN hln) rfl gX4_markB_X4_tellWindows ⟨rfl, ddX4_tellWindows⟩ ⟨Nat.le_of_ble_eq_true rfl, Nat.le_of_ble_eq_true rfl⟩ (Nat.le_of_ble_eq_true rfl) rfl dX4_markB_24 ⟨(by show 0 + 0 ≤ 0; omega), (by show 0 + 0 ≤ 0; omega)⟩ (fun r181 M182 n183 hr184 => ?_)
    obtain ⟨rfl, rfl, ⟨hx2, hA2, hB2, hG2, hQ2, hnd2, hnb2, _⟩, hf2⟩ := hr184
    refine j_st (st := [.int (nI (wcn (mn mA t - la) (-2147483648) cs))]) rfl ?_
    have hx2 : M182 x = some (.inr (4, [.ref (x + 1), .ref (x + 5), .ref (x + 9), .ref (x + 11), .int w, .int sl, .int la, .int sp, .int rm, .int ln, .int mA, .int mB, .int lt, .int pr, .int (tl + nI (cs.takeWhile (fun x : Nd => decide (x.2.1 ≤ mn mA t - la))).length), .int tk])) := hx2
    refine j_istore_n X 3 dX4_markB_27 rfl (by decide) rfl (L' := [some (.ref x), some (.int t), some (.int 0), some (.int (nI (wcn (mn mA t - la) (-2147483648) cs)))]) rfl ?_
    refine j_iload_n X 3 dX4_markB_28 rfl rfl ?_
    refine j_bipush X dX4_markB_29 (v := (-3)) (by decide) ?_
    refine j_icmp_ne X 37 dX4_markB_31 (by decide) (fun c185 => ?_) (fun c185 => ?_)
    · skip
      refine j_aload_n X 0 dX4_markB_37 rfl rfl ?_
      refine j_iload_n X 1 dX4_markB_38 rfl rfl ?_
      refine j_put X hx2 rfl iwX4_markB_X4 tyX4 tyX4_ok nmX4 11 (by decide) lkX4_markB_104 rfl rfl rfl (Nat.le_of_ble_eq_true rfl) (fs' := [.ref (x + 1), .ref (x + 5), .ref (x + 9), .ref (x + 11), .int w, .int sl, .int la, .int sp, .int rm, .int ln, .int mA, .int t, .int lt, .int pr, .int (tl + nI (cs.takeWhile (fun x : Nd => decide (x.2.1 ≤ mn mA t - la))).length), .int tk]) rfl dX4_markB_39 ?_
      generalize eM186 : j_up M182 x (.inr (4, [.ref (x + 1), .ref (x + 5), .ref (x + 9), .ref (x + 11), .int w, .int sl, .int la, .int sp, .int rm, .int ln, .int mA, .int t, .int lt, .int pr, .int (tl + nI (cs.takeWhile (fun x : Nd => decide (x.2.1 ≤ mn mA t - la))).length), .int tk])) = M186
      have h188 : M186 x = some (.inr (4, [.ref (x + 1), .ref (x + 5), .ref (x + 9), .ref (x + 11), .int w, .int sl, .int la, .int sp, .int rm, .int ln, .int mA, .int t, .int lt, .int pr, .int (tl + nI (cs.takeWhile (fun x : Nd => decide (x.2.1 ≤ mn mA t - la))).length), .int tk])) := by rw [← eM186]; exact j_up_self _ _ _
      have hp189 : EvAt M186 (x + 1) A := hA2.frame (fun q h1 h2 => by rw [← eM186]; exact j_up_ne _ _ (by omega))
      have hp190 : EvAt M186 (x + 5) B := hB2.frame (fun q h1 h2 => by rw [← eM186]; exact j_up_ne _ _ (by omega))
      have hp191 : GrAt M186 (x + 9) (cs.drop (cs.takeWhile (fun x : Nd => decide (x.2.1 ≤ mn mA t - la))).length) := hG2.frame (fun q hq => by rw [← eM186]; exact j_up_ne _ _ (by rcases hq with rfl | rfl | ⟨z, hz, rfl⟩ <;> first | omega | (have := hnb2 z hz; omega)))
      have hp192 : LnAt M186 (x + 11) (qu ++ (cs.take (cs.takeWhile (fun x : Nd => decide (x.2.1 ≤ mn mA t - la))).length).map (fun y : Nd => ((1, y.2) : Rec))) := hQ2.frame (fun q h1 h2 => by rw [← eM186]; exact j_up_ne _ _ (by omega))
      refine j_aload_n X 0 dX4_markB_42 rfl rfl ?_
      refine j_callV X nwSQ_ok (As := []) (rest := []) h188 rfl rfl (c_X4_dropEvents l D hI b0 (nb := nb) ⟨h188, hp189, hp190, hp191, hp192, hnd2, hnb2, hxn⟩ hsl) rfl gX4_markB_X4_dropEvents ⟨rfl, ddX4_dropEvents⟩ ⟨Nat.le_of_ble_eq_true rfl, Nat.le_of_ble_eq_true rfl⟩ (Nat.le_of_ble_eq_true rfl) rfl dX4_markB_43 ⟨(by show 0 + 0 ≤ 0; omega), (by show 0 + 0 ≤ 0; omega)⟩ (fun r193 M194 n195 hr196 => ?_)
      obtain ⟨rfl, rfl, hs3, hf3⟩ := hr196
      refine j_st (st := []) rfl ?_
      refine j_iload_n X 3 dX4_markB_46 rfl rfl ?_
      exact j_iret X hlk hr (by omega) (by omega) dX4_markB_47 ⟨rfl, rfl, hs3, fun q hq => by rw [hf3 _ (by omega), ← eM186, j_up_ne _ _ (by omega), hf2 _ (by omega)]⟩
    · skip
      exact absurd (show (0 : Int32) ≤ nI (wcn (mn mA t - la) (-2147483648) cs) from nI_pos' (by omega)) (by rw [c185]; decide)
  · skip
    exact absurd rfl c180
