set_option maxHeartbeats 800000 in
set_option maxRecDepth 100000 in
theorem c_X5_init (l : Launch) (D : va_G) {ty : jT} {cA : ClassId} (hI : ty[0]? = some (cA, .int)) (b0 : Nat) {M : jM} {n m : Nat} (hn : n = m + 1) (hm : M m = some (.inr (5, [.int 0, .int 0, .int 0, .int 0, .int 0, .int 0, .null, .null, .null, .null, .null, .null, .int 0, .int 0, .int 0, .int 0, .int 0, .int 0, .int 0, .int 0, .int 0]))) : Ct l D ty vwCl nwSQ b0 yX5_init wsX5_init 1 20 6 3604 [.ref m] M (m + 1) (fun r M' n' => r = none ∧ n' = m + 7 ∧ RF M' m 10 10 0 0 100 200 (-2000000000) (-2000000000) 0 0 0 0 ([]) ([]) ([]) ∧ ∀ q, (q < m ∨ m + 6 < q) → M' q = M q) := by
  subst hn
  refine j_start (cc := cX5_init) (maxL := 1) (ret := none) (by decide) rfl [some (.ref m)] (Nat.le_of_ble_eq_true rfl) rfl ?_
  intro p e s m0 below meth c X hlk hr hnm
  refine j_aload_n X 0 dX5_init_0 rfl rfl ?_
  refine j_objInit X wdX5_init_oi1 wdX5_init_oj wdX5_init_ok dX5_init_1 (Nat.le_of_ble_eq_true rfl) (Nat.le_of_ble_eq_true rfl) ?_
  refine j_aload_n X 0 dX5_init_4 rfl rfl ?_
  refine j_bipush X dX5_init_5 (v := 10) (by decide) ?_
  refine j_put X hm rfl iwX5_init_X5 tyX5 tyX5_ok nmX5 0 (by decide) lkX5_init_7 rfl rfl rfl (Nat.le_of_ble_eq_true rfl) (fs' := [.int 10, .int 0, .int 0, .int 0, .int 0, .int 0, .null, .null, .null, .null, .null, .null, .int 0, .int 0, .int 0, .int 0, .int 0, .int 0, .int 0, .int 0, .int 0]) rfl dX5_init_7 ?_
  generalize eM1 : j_up M m (.inr (5, [.int 10, .int 0, .int 0, .int 0, .int 0, .int 0, .null, .null, .null, .null, .null, .null, .int 0, .int 0, .int 0, .int 0, .int 0, .int 0, .int 0, .int 0, .int 0])) = M1
  have h3 : M1 m = some (.inr (5, [.int 10, .int 0, .int 0, .int 0, .int 0, .int 0, .null, .null, .null, .null, .null, .null, .int 0, .int 0, .int 0, .int 0, .int 0, .int 0, .int 0, .int 0, .int 0])) := by rw [← eM1]; exact j_up_self _ _ _
  refine j_aload_n X 0 dX5_init_10 rfl rfl ?_
  refine j_bipush X dX5_init_11 (v := 10) (by decide) ?_
  refine j_put X h3 rfl iwX5_init_X5 tyX5 tyX5_ok nmX5 1 (by decide) lkX5_init_13 rfl rfl rfl (Nat.le_of_ble_eq_true rfl) (fs' := [.int 10, .int 10, .int 0, .int 0, .int 0, .int 0, .null, .null, .null, .null, .null, .null, .int 0, .int 0, .int 0, .int 0, .int 0, .int 0, .int 0, .int 0, .int 0]) rfl dX5_init_13 ?_
  generalize eM4 : j_up M1 m (.inr (5, [.int 10, .int 10, .int 0, .int 0, .int 0, .int 0, .null, .null, .null, .null, .null, .null, .int 0, .int 0, .int 0, .int 0, .int 0, .int 0, .int 0, .int 0, .int 0])) = M4
  have h6 : M4 m = some (.inr (5, [.int 10, .int 10, .int 0, .int 0, .int 0, .int 0, .null, .null, .null, .null, .null, .null, .int 0, .int 0, .int 0, .int 0, .int 0, .int 0, .int 0, .int 0, .int 0])) := by rw [← eM4]; exact j_up_self _ _ _
  refine j_aload_n X 0 dX5_init_16 rfl rfl ?_
  refine j_bipush X dX5_init_17 (v := 100) (by decide) ?_
  refine j_put X h6 rfl iwX5_init_X5 tyX5 tyX5_ok nmX5 4 (by decide) lkX5_init_16 rfl rfl rfl (Nat.le_of_ble_eq_true rfl) (fs' := [.int 10, .int 10, .int 0, .int 0, .int 100, .int 0, .null, .null, .null, .null, .null, .null, .int 0, .int 0, .int 0, .int 0, .int 0, .int 0, .int 0, .int 0, .int 0]) rfl dX5_init_19 ?_
  generalize eM7 : j_up M4 m (.inr (5, [.int 10, .int 10, .int 0, .int 0, .int 100, .int 0, .null, .null, .null, .null, .null, .null, .int 0, .int 0, .int 0, .int 0, .int 0, .int 0, .int 0, .int 0, .int 0])) = M7
  have h9 : M7 m = some (.inr (5, [.int 10, .int 10, .int 0, .int 0, .int 100, .int 0, .null, .null, .null, .null, .null, .null, .int 0, .int 0, .int 0, .int 0, .int 0, .int 0, .int 0, .int 0, .int 0])) := by rw [← eM7]; exact j_up_self _ _ _
  refine j_aload_n X 0 dX5_init_22 rfl rfl ?_
  refine j_sipush X dX5_init_23 (v := 200) (by decide) ?_
  refine j_put X h9 rfl iwX5_init_X5 tyX5 tyX5_ok nmX5 5 (by decide) lkX5_init_19 rfl rfl rfl (Nat.le_of_ble_eq_true rfl) (fs' := [.int 10, .int 10, .int 0, .int 0, .int 100, .int 200, .null, .null, .null, .null, .null, .null, .int 0, .int 0, .int 0, .int 0, .int 0, .int 0, .int 0, .int 0, .int 0]) rfl dX5_init_26 ?_
  generalize eM10 : j_up M7 m (.inr (5, [.int 10, .int 10, .int 0, .int 0, .int 100, .int 200, .null, .null, .null, .null, .null, .null, .int 0, .int 0, .int 0, .int 0, .int 0, .int 0, .int 0, .int 0, .int 0])) = M10
  have h12 : M10 m = some (.inr (5, [.int 10, .int 10, .int 0, .int 0, .int 100, .int 200, .null, .null, .null, .null, .null, .null, .int 0, .int 0, .int 0, .int 0, .int 0, .int 0, .int 0, .int 0, .int 0])) := by rw [← eM10]; exact j_up_self _ _ _
  refine j_aload_n X 0 dX5_init_29 rfl rfl ?_
  refine j_sipush X dX5_init_30 (v := 400) (by decide) ?_
  refine j_newaI X hI wdX5_init_ai (N := 400) (by decide) (by decide) (by decide) (by decide) (by decide) dX5_init_33 ?_
  generalize eM13 : j_up M10 (m + 1) (.inl (0, 400, .inl (fun _ => 0))) = M13
  have h14 : M13 m = some (.inr (5, [.int 10, .int 10, .int 0, .int 0, .int 100, .int 200, .null, .null, .null, .null, .null, .null, .int 0, .int 0, .int 0, .int 0, .int 0, .int 0, .int 0, .int 0, .int 0])) := by rw [← eM13, j_up_ne _ _ (by omega)]; exact h12
  have h15 : M13 (m + 1) = some (.inl (0, 400, .inl (fun _ => 0))) := by rw [← eM13]; exact j_up_self _ _ _
  refine j_putF X h14 rfl iwX5_init_X5 tyX5 tyX5_ok nmX5 6 (by decide) lkX5_init_22 rfl hnm rfl rfl rfl (Nat.le_of_ble_eq_true rfl) (fs' := [.int 10, .int 10, .int 0, .int 0, .int 100, .int 200, .ref (m + 1), .null, .null, .null, .null, .null, .int 0, .int 0, .int 0, .int 0, .int 0, .int 0, .int 0, .int 0, .int 0]) rfl dX5_init_35 ?_
  generalize eM16 : j_up M13 m (.inr (5, [.int 10, .int 10, .int 0, .int 0, .int 100, .int 200, .ref (m + 1), .null, .null, .null, .null, .null, .int 0, .int 0, .int 0, .int 0, .int 0, .int 0, .int 0, .int 0, .int 0])) = M16
  have h18 : M16 (m + 1) = some (.inl (0, 400, .inl (fun _ => 0))) := by rw [← eM16, j_up_ne _ _ (by omega)]; exact h15
  have h19 : M16 m = some (.inr (5, [.int 10, .int 10, .int 0, .int 0, .int 100, .int 200, .ref (m + 1), .null, .null, .null, .null, .null, .int 0, .int 0, .int 0, .int 0, .int 0, .int 0, .int 0, .int 0, .int 0])) := by rw [← eM16]; exact j_up_self _ _ _
  refine j_aload_n X 0 dX5_init_38 rfl rfl ?_
  refine j_sipush X dX5_init_39 (v := 400) (by decide) ?_
  refine j_newaI X hI wdX5_init_ai (N := 400) (by decide) (by decide) (by decide) (by decide) (by decide) dX5_init_42 ?_
  generalize eM20 : j_up M16 (m + 2) (.inl (0, 400, .inl (fun _ => 0))) = M20
  have h21 : M20 (m + 1) = some (.inl (0, 400, .inl (fun _ => 0))) := by rw [← eM20, j_up_ne _ _ (by omega)]; exact h18
  have h22 : M20 m = some (.inr (5, [.int 10, .int 10, .int 0, .int 0, .int 100, .int 200, .ref (m + 1), .null, .null, .null, .null, .null, .int 0, .int 0, .int 0, .int 0, .int 0, .int 0, .int 0, .int 0, .int 0])) := by rw [← eM20, j_up_ne _ _ (by omega)]; exact h19
  have h23 : M20 (m + 2) = some (.inl (0, 400, .inl (fun _ => 0))) := by rw [← eM20]; exact j_up_self _ _ _
  refine j_putF X h22 rfl iwX5_init_X5 tyX5 tyX5_ok nmX5 7 (by decide) lkX5_init_26 rfl hnm rfl rfl rfl (Nat.le_of_ble_eq_true rfl) (fs' := [.int 10, .int 10, .int 0, .int 0, .int 100, .int 200, .ref (m + 1), .ref (m + 2), .null, .null, .null, .null, .int 0, .int 0, .int 0, .int 0, .int 0, .int 0, .int 0, .int 0, .int 0]) rfl dX5_init_44 ?_
  generalize eM24 : j_up M20 m (.inr (5, [.int 10, .int 10, .int 0, .int 0, .int 100, .int 200, .ref (m + 1), .ref (m + 2), .null, .null, .null, .null, .int 0, .int 0, .int 0, .int 0, .int 0, .int 0, .int 0, .int 0, .int 0])) = M24
  have h25 : M24 (m + 1) = some (.inl (0, 400, .inl (fun _ => 0))) := by rw [← eM24, j_up_ne _ _ (by omega)]; exact h21
  have h27 : M24 (m + 2) = some (.inl (0, 400, .inl (fun _ => 0))) := by rw [← eM24, j_up_ne _ _ (by omega)]; exact h23
  have h28 : M24 m = some (.inr (5, [.int 10, .int 10, .int 0, .int 0, .int 100, .int 200, .ref (m + 1), .ref (m + 2), .null, .null, .null, .null, .int 0, .int 0, .int 0, .int 0, .int 0, .int 0, .int 0, .int 0, .int 0])) := by rw [← eM24]; exact j_up_self _ _ _
  refine j_aload_n X 0 dX5_init_47 rfl rfl ?_
  refine j_sipush X dX5_init_48 (v := 400) (by decide) ?_
  refine j_newaI X hI wdX5_init_ai (N := 400) (by decide) (by decide) (by decide) (by decide) (by decide) dX5_init_51 ?_
  generalize eM29 : j_up M24 (m + 3) (.inl (0, 400, .inl (fun _ => 0))) = M29
  have h30 : M29 (m + 1) = some (.inl (0, 400, .inl (fun _ => 0))) := by rw [← eM29, j_up_ne _ _ (by omega)]; exact h25
  have h31 : M29 (m + 2) = some (.inl (0, 400, .inl (fun _ => 0))) := by rw [← eM29, j_up_ne _ _ (by omega)]; exact h27
  have h32 : M29 m = some (.inr (5, [.int 10, .int 10, .int 0, .int 0, .int 100, .int 200, .ref (m + 1), .ref (m + 2), .null, .null, .null, .null, .int 0, .int 0, .int 0, .int 0, .int 0, .int 0, .int 0, .int 0, .int 0])) := by rw [← eM29, j_up_ne _ _ (by omega)]; exact h28
  have h33 : M29 (m + 3) = some (.inl (0, 400, .inl (fun _ => 0))) := by rw [← eM29]; exact j_up_self _ _ _
  refine j_putF X h32 rfl iwX5_init_X5 tyX5 tyX5_ok nmX5 8 (by decide) lkX5_init_29 rfl hnm rfl rfl rfl (Nat.le_of_ble_eq_true rfl) (fs' := [.int 10, .int 10, .int 0, .int 0, .int 100, .int 200, .ref (m + 1), .ref (m + 2), .ref (m + 3), .null, .null, .null, .int 0, .int 0, .int 0, .int 0, .int 0, .int 0, .int 0, .int 0, .int 0]) rfl dX5_init_53 ?_
  generalize eM34 : j_up M29 m (.inr (5, [.int 10, .int 10, .int 0, .int 0, .int 100, .int 200, .ref (m + 1), .ref (m + 2), .ref (m + 3), .null, .null, .null, .int 0, .int 0, .int 0, .int 0, .int 0, .int 0, .int 0, .int 0, .int 0])) = M34
  have h35 : M34 (m + 1) = some (.inl (0, 400, .inl (fun _ => 0))) := by rw [← eM34, j_up_ne _ _ (by omega)]; exact h30
  have h36 : M34 (m + 2) = some (.inl (0, 400, .inl (fun _ => 0))) := by rw [← eM34, j_up_ne _ _ (by omega)]; exact h31
  have h38 : M34 (m + 3) = some (.inl (0, 400, .inl (fun _ => 0))) := by rw [← eM34, j_up_ne _ _ (by omega)]; exact h33
  have h39 : M34 m = some (.inr (5, [.int 10, .int 10, .int 0, .int 0, .int 100, .int 200, .ref (m + 1), .ref (m + 2), .ref (m + 3), .null, .null, .null, .int 0, .int 0, .int 0, .int 0, .int 0, .int 0, .int 0, .int 0, .int 0])) := by rw [← eM34]; exact j_up_self _ _ _
  refine j_aload_n X 0 dX5_init_56 rfl rfl ?_
  refine j_iconst X dX5_init_57 (v := 2) (by decide) ?_
  refine j_newaI X hI wdX5_init_ai (N := 2) (by decide) (by decide) (by decide) (by decide) (by decide) dX5_init_58 ?_
  generalize eM40 : j_up M34 (m + 4) (.inl (0, 2, .inl (fun _ => 0))) = M40
  have h41 : M40 (m + 1) = some (.inl (0, 400, .inl (fun _ => 0))) := by rw [← eM40, j_up_ne _ _ (by omega)]; exact h35
  have h42 : M40 (m + 2) = some (.inl (0, 400, .inl (fun _ => 0))) := by rw [← eM40, j_up_ne _ _ (by omega)]; exact h36
  have h43 : M40 (m + 3) = some (.inl (0, 400, .inl (fun _ => 0))) := by rw [← eM40, j_up_ne _ _ (by omega)]; exact h38
  have h44 : M40 m = some (.inr (5, [.int 10, .int 10, .int 0, .int 0, .int 100, .int 200, .ref (m + 1), .ref (m + 2), .ref (m + 3), .null, .null, .null, .int 0, .int 0, .int 0, .int 0, .int 0, .int 0, .int 0, .int 0, .int 0])) := by rw [← eM40, j_up_ne _ _ (by omega)]; exact h39
  have h45 : M40 (m + 4) = some (.inl (0, 2, .inl (fun _ => 0))) := by rw [← eM40]; exact j_up_self _ _ _
  refine j_putF X h44 rfl iwX5_init_X5 tyX5 tyX5_ok nmX5 9 (by decide) lkX5_init_32 rfl hnm rfl rfl rfl (Nat.le_of_ble_eq_true rfl) (fs' := [.int 10, .int 10, .int 0, .int 0, .int 100, .int 200, .ref (m + 1), .ref (m + 2), .ref (m + 3), .ref (m + 4), .null, .null, .int 0, .int 0, .int 0, .int 0, .int 0, .int 0, .int 0, .int 0, .int 0]) rfl dX5_init_60 ?_
  generalize eM46 : j_up M40 m (.inr (5, [.int 10, .int 10, .int 0, .int 0, .int 100, .int 200, .ref (m + 1), .ref (m + 2), .ref (m + 3), .ref (m + 4), .null, .null, .int 0, .int 0, .int 0, .int 0, .int 0, .int 0, .int 0, .int 0, .int 0])) = M46
  have h47 : M46 (m + 1) = some (.inl (0, 400, .inl (fun _ => 0))) := by rw [← eM46, j_up_ne _ _ (by omega)]; exact h41
  have h48 : M46 (m + 2) = some (.inl (0, 400, .inl (fun _ => 0))) := by rw [← eM46, j_up_ne _ _ (by omega)]; exact h42
  have h49 : M46 (m + 3) = some (.inl (0, 400, .inl (fun _ => 0))) := by rw [← eM46, j_up_ne _ _ (by omega)]; exact h43
  have h51 : M46 (m + 4) = some (.inl (0, 2, .inl (fun _ => 0))) := by rw [← eM46, j_up_ne _ _ (by omega)]; exact h45
  have h52 : M46 m = some (.inr (5, [.int 10, .int 10, .int 0, .int 0, .int 100, .int 200, .ref (m + 1), .ref (m + 2), .ref (m + 3), .ref (m + 4), .null, .null, .int 0, .int 0, .int 0, .int 0, .int 0, .int 0, .int 0, .int 0, .int 0])) := by rw [← eM46]; exact j_up_self _ _ _
  refine j_aload_n X 0 dX5_init_63 rfl rfl ?_
  refine j_iconst X dX5_init_64 (v := 2) (by decide) ?_
  refine j_newaI X hI wdX5_init_ai (N := 2) (by decide) (by decide) (by decide) (by decide) (by decide) dX5_init_65 ?_
  generalize eM53 : j_up M46 (m + 5) (.inl (0, 2, .inl (fun _ => 0))) = M53
  have h54 : M53 (m + 1) = some (.inl (0, 400, .inl (fun _ => 0))) := by rw [← eM53, j_up_ne _ _ (by omega)]; exact h47
  have h55 : M53 (m + 2) = some (.inl (0, 400, .inl (fun _ => 0))) := by rw [← eM53, j_up_ne _ _ (by omega)]; exact h48
  have h56 : M53 (m + 3) = some (.inl (0, 400, .inl (fun _ => 0))) := by rw [← eM53, j_up_ne _ _ (by omega)]; exact h49
  have h57 : M53 (m + 4) = some (.inl (0, 2, .inl (fun _ => 0))) := by rw [← eM53, j_up_ne _ _ (by omega)]; exact h51
  have h58 : M53 m = some (.inr (5, [.int 10, .int 10, .int 0, .int 0, .int 100, .int 200, .ref (m + 1), .ref (m + 2), .ref (m + 3), .ref (m + 4), .null, .null, .int 0, .int 0, .int 0, .int 0, .int 0, .int 0, .int 0, .int 0, .int 0])) := by rw [← eM53, j_up_ne _ _ (by omega)]; exact h52
  have h59 : M53 (m + 5) = some (.inl (0, 2, .inl (fun _ => 0))) := by rw [← eM53]; exact j_up_self _ _ _
  refine j_putF X h58 rfl iwX5_init_X5 tyX5 tyX5_ok nmX5 10 (by decide) lkX5_init_35 rfl hnm rfl rfl rfl (Nat.le_of_ble_eq_true rfl) (fs' := [.int 10, .int 10, .int 0, .int 0, .int 100, .int 200, .ref (m + 1), .ref (m + 2), .ref (m + 3), .ref (m + 4), .ref (m + 5), .null, .int 0, .int 0, .int 0, .int 0, .int 0, .int 0, .int 0, .int 0, .int 0]) rfl dX5_init_67 ?_
  generalize eM60 : j_up M53 m (.inr (5, [.int 10, .int 10, .int 0, .int 0, .int 100, .int 200, .ref (m + 1), .ref (m + 2), .ref (m + 3), .ref (m + 4), .ref (m + 5), .null, .int 0, .int 0, .int 0, .int 0, .int 0, .int 0, .int 0, .int 0, .int 0])) = M60
  have h61 : M60 (m + 1) = some (.inl (0, 400, .inl (fun _ => 0))) := by rw [← eM60, j_up_ne _ _ (by omega)]; exact h54
  have h62 : M60 (m + 2) = some (.inl (0, 400, .inl (fun _ => 0))) := by rw [← eM60, j_up_ne _ _ (by omega)]; exact h55
  have h63 : M60 (m + 3) = some (.inl (0, 400, .inl (fun _ => 0))) := by rw [← eM60, j_up_ne _ _ (by omega)]; exact h56
  have h64 : M60 (m + 4) = some (.inl (0, 2, .inl (fun _ => 0))) := by rw [← eM60, j_up_ne _ _ (by omega)]; exact h57
  have h66 : M60 (m + 5) = some (.inl (0, 2, .inl (fun _ => 0))) := by rw [← eM60, j_up_ne _ _ (by omega)]; exact h59
  have h67 : M60 m = some (.inr (5, [.int 10, .int 10, .int 0, .int 0, .int 100, .int 200, .ref (m + 1), .ref (m + 2), .ref (m + 3), .ref (m + 4), .ref (m + 5), .null, .int 0, .int 0, .int 0, .int 0, .int 0, .int 0, .int 0, .int 0, .int 0])) := by rw [← eM60]; exact j_up_self _ _ _
  refine j_aload_n X 0 dX5_init_70 rfl rfl ?_
  refine j_sipush X dX5_init_71 (v := 2400) (by decide) ?_
  refine j_newaI X hI wdX5_init_ai (N := 2400) (by decide) (by decide) (by decide) (by decide) (by decide) dX5_init_74 ?_
  generalize eM68 : j_up M60 (m + 6) (.inl (0, 2400, .inl (fun _ => 0))) = M68
  have h69 : M68 (m + 1) = some (.inl (0, 400, .inl (fun _ => 0))) := by rw [← eM68, j_up_ne _ _ (by omega)]; exact h61
  have h70 : M68 (m + 2) = some (.inl (0, 400, .inl (fun _ => 0))) := by rw [← eM68, j_up_ne _ _ (by omega)]; exact h62
  have h71 : M68 (m + 3) = some (.inl (0, 400, .inl (fun _ => 0))) := by rw [← eM68, j_up_ne _ _ (by omega)]; exact h63
  have h72 : M68 (m + 4) = some (.inl (0, 2, .inl (fun _ => 0))) := by rw [← eM68, j_up_ne _ _ (by omega)]; exact h64
  have h73 : M68 (m + 5) = some (.inl (0, 2, .inl (fun _ => 0))) := by rw [← eM68, j_up_ne _ _ (by omega)]; exact h66
  have h74 : M68 m = some (.inr (5, [.int 10, .int 10, .int 0, .int 0, .int 100, .int 200, .ref (m + 1), .ref (m + 2), .ref (m + 3), .ref (m + 4), .ref (m + 5), .null, .int 0, .int 0, .int 0, .int 0, .int 0, .int 0, .int 0, .int 0, .int 0])) := by rw [← eM68, j_up_ne _ _ (by omega)]; exact h67
  have h75 : M68 (m + 6) = some (.inl (0, 2400, .inl (fun _ => 0))) := by rw [← eM68]; exact j_up_self _ _ _
  refine j_putF X h74 rfl iwX5_init_X5 tyX5 tyX5_ok nmX5 11 (by decide) lkX5_init_38 rfl hnm rfl rfl rfl (Nat.le_of_ble_eq_true rfl) (fs' := [.int 10, .int 10, .int 0, .int 0, .int 100, .int 200, .ref (m + 1), .ref (m + 2), .ref (m + 3), .ref (m + 4), .ref (m + 5), .ref (m + 6), .int 0, .int 0, .int 0, .int 0, .int 0, .int 0, .int 0, .int 0, .int 0]) rfl dX5_init_76 ?_
  generalize eM76 : j_up M68 m (.inr (5, [.int 10, .int 10, .int 0, .int 0, .int 100, .int 200, .ref (m + 1), .ref (m + 2), .ref (m + 3), .ref (m + 4), .ref (m + 5), .ref (m + 6), .int 0, .int 0, .int 0, .int 0, .int 0, .int 0, .int 0, .int 0, .int 0])) = M76
  have h77 : M76 (m + 1) = some (.inl (0, 400, .inl (fun _ => 0))) := by rw [← eM76, j_up_ne _ _ (by omega)]; exact h69
  have h78 : M76 (m + 2) = some (.inl (0, 400, .inl (fun _ => 0))) := by rw [← eM76, j_up_ne _ _ (by omega)]; exact h70
  have h79 : M76 (m + 3) = some (.inl (0, 400, .inl (fun _ => 0))) := by rw [← eM76, j_up_ne _ _ (by omega)]; exact h71
  have h80 : M76 (m + 4) = some (.inl (0, 2, .inl (fun _ => 0))) := by rw [← eM76, j_up_ne _ _ (by omega)]; exact h72
  have h81 : M76 (m + 5) = some (.inl (0, 2, .inl (fun _ => 0))) := by rw [← eM76, j_up_ne _ _ (by omega)]; exact h73
  have h83 : M76 (m + 6) = some (.inl (0, 2400, .inl (fun _ => 0))) := by rw [← eM76, j_up_ne _ _ (by omega)]; exact h75
  have h84 : M76 m = some (.inr (5, [.int 10, .int 10, .int 0, .int 0, .int 100, .int 200, .ref (m + 1), .ref (m + 2), .ref (m + 3), .ref (m + 4), .ref (m + 5), .ref (m + 6), .int 0, .int 0, .int 0, .int 0, .int 0, .int 0, .int 0, .int 0, .int 0])) := by rw [← eM76]; exact j_up_self _ _ _
  refine j_aload_n X 0 dX5_init_79 rfl rfl ?_
  refine j_callV X nwSQ_ok (As := []) (rest := []) h84 rfl rfl (c_X5_forget l D hI b0 h84 ⟨h77, h78, h79, h80, h81, h83⟩) rfl gX5_init_X5_forget ⟨rfl, ddX5_forget⟩ ⟨Nat.le_of_ble_eq_true rfl, Nat.le_of_ble_eq_true rfl⟩ (Nat.le_of_ble_eq_true rfl) rfl dX5_init_80 ⟨(by show 6 + 0 ≤ 6; omega), (by show 3604 + 0 ≤ 3604; omega)⟩ (fun r85 M86 n87 hr88 => ?_)
  obtain ⟨rfl, rfl, hm2, hr2, hf2⟩ := hr88
  refine j_st (st := []) rfl ?_
  exact j_vret X hlk hr (by omega) (by omega) dX5_init_83 ⟨rfl, rfl, ⟨_, _, _, _, _, _, _, _, _, _, hm2, hr2, ⟨rfl, rfl, rfl, rfl, Nat.zero_le _, Nat.zero_le _, Nat.zero_le _, fun i hi => absurd hi (Nat.not_lt_zero i), fun i hi => absurd hi (Nat.not_lt_zero i), fun i hi => absurd hi (Nat.not_lt_zero i)⟩⟩, fun q hq => by rw [hf2 _ (by omega), ← eM76, j_up_ne _ _ (by omega), ← eM68, j_up_ne _ _ (by omega), ← eM60, j_up_ne _ _ (by omega), ← eM53, j_up_ne _ _ (by omega), ← eM46, j_up_ne _ _ (by omega), ← eM40, j_up_ne _ _ (by omega), ← eM34, j_up_ne _ _ (by omega), ← eM29, j_up_ne _ _ (by omega), ← eM24, j_up_ne _ _ (by omega), ← eM20, j_up_ne _ _ (by omega), ← eM16, j_up_ne _ _ (by omega), ← eM13, j_up_ne _ _ (by omega), ← eM10, j_up_ne _ _ (by omega), ← eM7, j_up_ne _ _ (by omega), ← eM4, j_up_ne _ _ (by omega), ← eM1, j_up_ne _ _ (by omega)]⟩
set_option maxHeartbeats 800000 in
set_option maxRecDepth 100000 in
theorem c_X5_setN (l : Launch) (D : va_G) {ty : jT} {cA : ClassId} (hI : ty[0]? = some (cA, .int)) (b0 : Nat) {M : jM} {n m : Nat} {w sl la sp rm ln mA mB lt pr tl tk : Int32} {A B : List Ev} {qu : List Rec} (h : RF M m w sl la sp rm ln mA mB lt pr tl tk A B qu) (a0 a1 a2 a3 a4 a5 : Int32) (hno : ¬ okS a0 a1 a2 a3 a4 a5) : Ct l D ty vwCl nwSQ b0 yX5_set wsX5_set 1 22 0 0 [.ref m, .int a0, .int a1, .int a2, .int a3, .int a4, .int a5] M n (j_rd (.int (-2)) M n) := by
  obtain ⟨sm, my, gr, rc, ft, fk, fv, kp, mk, qa, hm, hr0, hk0, hk1, hm0, hm1, hlA, hlB, hlQ, hA, hB, hQ⟩ := id h
  have hm : M m = some (.inr (5, [.int w, .int sl, .int la, .int sp, .int rm, .int ln, .ref (m + 1), .ref (m + 2), .ref (m + 3), .ref (m + 4), .ref (m + 5), .ref (m + 6), .int (nI qu.length), .int lt, .int pr, .int tl, .int tk, .int sm, .int my, .int gr, .int rc])) := hm
  obtain ⟨h1, h2, h3, h4, h5, h6⟩ := id hr0
  have hq0 := i_rng a0
  have hq1 := i_rng a1
  have hb0 : bigI a0.toInt := ⟨by omega, by omega⟩
  have hb1 : bigI (16 * a1.toInt) := ⟨by omega, by omega⟩
  refine j_start (cc := cX5_set) (maxL := 8) (ret := (some .int)) (by decide) rfl [some (.ref m), some (.int a0), some (.int a1), some (.int a2), some (.int a3), some (.int a4), some (.int a5), none] (Nat.le_of_ble_eq_true rfl) rfl ?_
  intro p e s m0 below meth c X hlk hr hnm
  refine j_iload_n X 1 dX5_set_0 rfl rfl ?_
  refine j_iconst X dX5_set_1 (v := 1) (by decide) ?_
  refine j_ldc X dX5_set_2 wdX5_set_c60 ?_
  refine j_callS X nwSQ_ok (As := [.int a0, .int 1, .int 1000000]) (rest := []) rfl (c_X5_in l D hI b0 a0 1 1000000) rfl gX5_set_X5_in ddX5_in ⟨Nat.le_of_ble_eq_true rfl, Nat.le_of_ble_eq_true rfl⟩ (Nat.le_of_ble_eq_true rfl) rfl dX5_set_4 ⟨(by show 0 + 0 ≤ 0; omega), (by show 0 + 0 ≤ 0; omega)⟩ (fun r89 M90 n91 hr92 => ?_)
  obtain ⟨rfl, rfl, rfl⟩ := hr92
  refine j_st (st := [.int (if 1 ≤ a0 ∧ a0 ≤ 1000000 then 1 else 0)]) rfl ?_
  refine j_if_eq X 35 dX5_set_7 (by decide) (fun c93 => ?_) (fun c93 => ?_)
  · skip
    refine j_iconst X dX5_set_35 (v := 0) (by decide) ?_
    refine j_istore X dX5_set_36 (by decide) rfl (L' := [some (.ref m), some (.int a0), some (.int a1), some (.int a2), some (.int a3), some (.int a4), some (.int a5), some (.int 0)]) rfl ?_
    refine j_iload X dX5_set_38 rfl ?_
    refine j_if_eq X 88 dX5_set_40 (by decide) (fun c94 => ?_) (fun c94 => ?_)
    · skip
      refine j_bipush X dX5_set_88 (v := (-2)) (by decide) ?_
      exact j_iret X hlk hr (by omega) (by omega) dX5_set_90 ⟨rfl, rfl, rfl⟩
    · skip
      exact absurd rfl c94
  · skip
    refine j_iload_n X 2 dX5_set_10 rfl rfl ?_
    refine j_iconst X dX5_set_11 (v := 1) (by decide) ?_
    refine j_iload_n X 1 dX5_set_12 rfl rfl ?_
    refine j_callS X nwSQ_ok (As := [.int a1, .int 1, .int a0]) (rest := []) rfl (c_X5_in l D hI b0 a1 1 a0) rfl gX5_set_X5_in ddX5_in ⟨Nat.le_of_ble_eq_true rfl, Nat.le_of_ble_eq_true rfl⟩ (Nat.le_of_ble_eq_true rfl) rfl dX5_set_13 ⟨(by show 0 + 0 ≤ 0; omega), (by show 0 + 0 ≤ 0; omega)⟩ (fun r95 M96 n97 hr98 => ?_)
    obtain ⟨rfl, rfl, rfl⟩ := hr98
    refine j_st (st := [.int (if 1 ≤ a1 ∧ a1 ≤ a0 then 1 else 0)]) rfl ?_
    refine j_if_eq X 35 dX5_set_16 (by decide) (fun c99 => ?_) (fun c99 => ?_)
    · skip
      refine j_iconst X dX5_set_35 (v := 0) (by decide) ?_
      refine j_istore X dX5_set_36 (by decide) rfl (L' := [some (.ref m), some (.int a0), some (.int a1), some (.int a2), some (.int a3), some (.int a4), some (.int a5), some (.int 0)]) rfl ?_
      refine j_iload X dX5_set_38 rfl ?_
      refine j_if_eq X 88 dX5_set_40 (by decide) (fun c100 => ?_) (fun c100 => ?_)
      · skip
        refine j_bipush X dX5_set_88 (v := (-2)) (by decide) ?_
        exact j_iret X hlk hr (by omega) (by omega) dX5_set_90 ⟨rfl, rfl, rfl⟩
      · skip
        exact absurd rfl c100
    · skip
      refine j_iload_n X 1 dX5_set_19 rfl rfl ?_
      refine j_i2l X dX5_set_20 ?_
      refine j_st (st := [.long (lI a0.toInt)]) (by rw [l_of a0]) ?_
      refine j_ldc2 X dX5_set_21 wdX5_set_c65 ?_
      refine j_st (st := [.long (lI 16), .long (lI a0.toInt)]) (by rw [l_c16]) ?_
      refine j_iload_n X 2 dX5_set_24 rfl rfl ?_
      refine j_i2l X dX5_set_25 ?_
      refine j_st (st := [.long (lI a1.toInt), .long (lI 16), .long (lI a0.toInt)]) (by rw [l_of a1]) ?_
      refine j_lmul X dX5_set_26 ?_
      refine j_st (st := [.long (lI (16 * a1.toInt)), .long (lI a0.toInt)]) (by rw [lI_mul]) ?_
      refine j_lc_gt X 35 dX5_set_27 dX5_set_28 (by decide) (fun c101 => ?_) (fun c101 => ?_)
      · skip
        refine j_iconst X dX5_set_35 (v := 0) (by decide) ?_
        refine j_istore X dX5_set_36 (by decide) rfl (L' := [some (.ref m), some (.int a0), some (.int a1), some (.int a2), some (.int a3), some (.int a4), some (.int a5), some (.int 0)]) rfl ?_
        refine j_iload X dX5_set_38 rfl ?_
        refine j_if_eq X 88 dX5_set_40 (by decide) (fun c102 => ?_) (fun c102 => ?_)
        · skip
          refine j_bipush X dX5_set_88 (v := (-2)) (by decide) ?_
          exact j_iret X hlk hr (by omega) (by omega) dX5_set_90 ⟨rfl, rfl, rfl⟩
        · skip
          exact absurd rfl c102
      · skip
        refine j_iconst X dX5_set_31 (v := 1) (by decide) ?_
        refine j_goto X 36 dX5_set_32 (by decide) ?_
        refine j_istore X dX5_set_36 (by decide) rfl (L' := [some (.ref m), some (.int a0), some (.int a1), some (.int a2), some (.int a3), some (.int a4), some (.int a5), some (.int 1)]) rfl ?_
        refine j_iload X dX5_set_38 rfl ?_
        refine j_if_eq X 88 dX5_set_40 (by decide) (fun c103 => ?_) (fun c103 => ?_)
        · skip
          exact absurd c103 (by decide)
        · skip
          refine j_iload_n X 3 dX5_set_43 rfl rfl ?_
          refine j_iconst X dX5_set_44 (v := 0) (by decide) ?_
          refine j_ldc X dX5_set_45 wdX5_set_c60 ?_
          refine j_callS X nwSQ_ok (As := [.int a2, .int 0, .int 1000000]) (rest := []) rfl (c_X5_in l D hI b0 a2 0 1000000) rfl gX5_set_X5_in ddX5_in ⟨Nat.le_of_ble_eq_true rfl, Nat.le_of_ble_eq_true rfl⟩ (Nat.le_of_ble_eq_true rfl) rfl dX5_set_47 ⟨(by show 0 + 0 ≤ 0; omega), (by show 0 + 0 ≤ 0; omega)⟩ (fun r104 M105 n106 hr107 => ?_)
          obtain ⟨rfl, rfl, rfl⟩ := hr107
          refine j_st (st := [.int (if 0 ≤ a2 ∧ a2 ≤ 1000000 then 1 else 0)]) rfl ?_
          refine j_if_eq X 88 dX5_set_50 (by decide) (fun c108 => ?_) (fun c108 => ?_)
          · skip
            refine j_bipush X dX5_set_88 (v := (-2)) (by decide) ?_
            exact j_iret X hlk hr (by omega) (by omega) dX5_set_90 ⟨rfl, rfl, rfl⟩
          · skip
            refine j_iload X dX5_set_53 rfl ?_
            refine j_iconst X dX5_set_55 (v := 0) (by decide) ?_
            refine j_ldc X dX5_set_56 wdX5_set_c60 ?_
            refine j_callS X nwSQ_ok (As := [.int a3, .int 0, .int 1000000]) (rest := []) rfl (c_X5_in l D hI b0 a3 0 1000000) rfl gX5_set_X5_in ddX5_in ⟨Nat.le_of_ble_eq_true rfl, Nat.le_of_ble_eq_true rfl⟩ (Nat.le_of_ble_eq_true rfl) rfl dX5_set_58 ⟨(by show 0 + 0 ≤ 0; omega), (by show 0 + 0 ≤ 0; omega)⟩ (fun r109 M110 n111 hr112 => ?_)
            obtain ⟨rfl, rfl, rfl⟩ := hr112
            refine j_st (st := [.int (if 0 ≤ a3 ∧ a3 ≤ 1000000 then 1 else 0)]) rfl ?_
            refine j_if_eq X 88 dX5_set_61 (by decide) (fun c113 => ?_) (fun c113 => ?_)
            · skip
              refine j_bipush X dX5_set_88 (v := (-2)) (by decide) ?_
              exact j_iret X hlk hr (by omega) (by omega) dX5_set_90 ⟨rfl, rfl, rfl⟩
            · skip
              refine j_iload X dX5_set_64 rfl ?_
              refine j_iconst X dX5_set_66 (v := 1) (by decide) ?_
              refine j_sipush X dX5_set_67 (v := 200) (by decide) ?_
              refine j_callS X nwSQ_ok (As := [.int a4, .int 1, .int 200]) (rest := []) rfl (c_X5_in l D hI b0 a4 1 200) rfl gX5_set_X5_in ddX5_in ⟨Nat.le_of_ble_eq_true rfl, Nat.le_of_ble_eq_true rfl⟩ (Nat.le_of_ble_eq_true rfl) rfl dX5_set_70 ⟨(by show 0 + 0 ≤ 0; omega), (by show 0 + 0 ≤ 0; omega)⟩ (fun r114 M115 n116 hr117 => ?_)
              obtain ⟨rfl, rfl, rfl⟩ := hr117
              refine j_st (st := [.int (if 1 ≤ a4 ∧ a4 ≤ 200 then 1 else 0)]) rfl ?_
              refine j_if_eq X 88 dX5_set_73 (by decide) (fun c118 => ?_) (fun c118 => ?_)
              · skip
                refine j_bipush X dX5_set_88 (v := (-2)) (by decide) ?_
                exact j_iret X hlk hr (by omega) (by omega) dX5_set_90 ⟨rfl, rfl, rfl⟩
              · skip
                refine j_iload X dX5_set_76 rfl ?_
                refine j_iconst X dX5_set_78 (v := 1) (by decide) ?_
                refine j_sipush X dX5_set_79 (v := 400) (by decide) ?_
                refine j_callS X nwSQ_ok (As := [.int a5, .int 1, .int 400]) (rest := []) rfl (c_X5_in l D hI b0 a5 1 400) rfl gX5_set_X5_in ddX5_in ⟨Nat.le_of_ble_eq_true rfl, Nat.le_of_ble_eq_true rfl⟩ (Nat.le_of_ble_eq_true rfl) rfl dX5_set_82 ⟨(by show 0 + 0 ≤ 0; omega), (by show 0 + 0 ≤ 0; omega)⟩ (fun r119 M120 n121 hr122 => ?_)
                obtain ⟨rfl, rfl, rfl⟩ := hr122
                refine j_st (st := [.int (if 1 ≤ a5 ∧ a5 ≤ 400 then 1 else 0)]) rfl ?_
                refine j_if_ne X 91 dX5_set_85 (by decide) (fun c123 => ?_) (fun c123 => ?_)
                · skip
                  exact absurd ⟨set_ok (zo_ne.mp c93) (zo_ne.mp c99) (fun q => c101 ((lI_lt hb1 hb0).mpr q)), zo_ne.mp c108, zo_ne.mp c113, zo_ne.mp c118, zo_ne.mp c123⟩ hno
                · skip
                  refine j_bipush X dX5_set_88 (v := (-2)) (by decide) ?_
                  exact j_iret X hlk hr (by omega) (by omega) dX5_set_90 ⟨rfl, rfl, rfl⟩
set_option maxHeartbeats 800000 in
set_option maxRecDepth 100000 in
theorem c_X5_setY (l : Launch) (D : va_G) {ty : jT} {cA : ClassId} (hI : ty[0]? = some (cA, .int)) (b0 : Nat) {M : jM} {n m : Nat} {w sl la sp rm ln mA mB lt pr tl tk : Int32} {A B : List Ev} {qu : List Rec} (h : RF M m w sl la sp rm ln mA mB lt pr tl tk A B qu) (a0 a1 a2 a3 a4 a5 : Int32) (hok : okS a0 a1 a2 a3 a4 a5) : Ct l D ty vwCl nwSQ b0 yX5_set wsX5_set 1 22 0 0 [.ref m, .int a0, .int a1, .int a2, .int a3, .int a4, .int a5] M n (fun r M' n' => r = some (.int 0) ∧ n = n' ∧ RF M' m a0 a1 a2 a3 a4 a5 (-2000000000) (-2000000000) 0 0 0 0 ([]) ([]) ([]) ∧ ∀ q, (q < m ∨ m + 6 < q) → M' q = M q) := by
  obtain ⟨sm, my, gr, rc, ft, fk, fv, kp, mk, qa, hm, hr0, hk0, hk1, hm0, hm1, hlA, hlB, hlQ, hA, hB, hQ⟩ := id h
  have hm : M m = some (.inr (5, [.int w, .int sl, .int la, .int sp, .int rm, .int ln, .ref (m + 1), .ref (m + 2), .ref (m + 3), .ref (m + 4), .ref (m + 5), .ref (m + 6), .int (nI qu.length), .int lt, .int pr, .int tl, .int tk, .int sm, .int my, .int gr, .int rc])) := hm
  obtain ⟨h1, h2, h3, h4, h5, h6⟩ := id hr0
  have hq0 := i_rng a0
  have hq1 := i_rng a1
  have hb0 : bigI a0.toInt := ⟨by omega, by omega⟩
  have hb1 : bigI (16 * a1.toInt) := ⟨by omega, by omega⟩
  refine j_start (cc := cX5_set) (maxL := 8) (ret := (some .int)) (by decide) rfl [some (.ref m), some (.int a0), some (.int a1), some (.int a2), some (.int a3), some (.int a4), some (.int a5), none] (Nat.le_of_ble_eq_true rfl) rfl ?_
  intro p e s m0 below meth c X hlk hr hnm
  refine j_iload_n X 1 dX5_set_0 rfl rfl ?_
  refine j_iconst X dX5_set_1 (v := 1) (by decide) ?_
  refine j_ldc X dX5_set_2 wdX5_set_c60 ?_
  refine j_callS X nwSQ_ok (As := [.int a0, .int 1, .int 1000000]) (rest := []) rfl (c_X5_in l D hI b0 a0 1 1000000) rfl gX5_set_X5_in ddX5_in ⟨Nat.le_of_ble_eq_true rfl, Nat.le_of_ble_eq_true rfl⟩ (Nat.le_of_ble_eq_true rfl) rfl dX5_set_4 ⟨(by show 0 + 0 ≤ 0; omega), (by show 0 + 0 ≤ 0; omega)⟩ (fun r124 M125 n126 hr127 => ?_)
  obtain ⟨rfl, rfl, rfl⟩ := hr127
  refine j_st (st := [.int (if 1 ≤ a0 ∧ a0 ≤ 1000000 then 1 else 0)]) rfl ?_
  refine j_if_eq X 35 dX5_set_7 (by decide) (fun c128 => ?_) (fun c128 => ?_)
  · skip
    exact absurd (show (1 : Int32) ≤ a0 ∧ a0 ≤ 1000000 from hok.1.1) (zo_eq.mp c128)
  · skip
    refine j_iload_n X 2 dX5_set_10 rfl rfl ?_
    refine j_iconst X dX5_set_11 (v := 1) (by decide) ?_
    refine j_iload_n X 1 dX5_set_12 rfl rfl ?_
    refine j_callS X nwSQ_ok (As := [.int a1, .int 1, .int a0]) (rest := []) rfl (c_X5_in l D hI b0 a1 1 a0) rfl gX5_set_X5_in ddX5_in ⟨Nat.le_of_ble_eq_true rfl, Nat.le_of_ble_eq_true rfl⟩ (Nat.le_of_ble_eq_true rfl) rfl dX5_set_13 ⟨(by show 0 + 0 ≤ 0; omega), (by show 0 + 0 ≤ 0; omega)⟩ (fun r129 M130 n131 hr132 => ?_)
    obtain ⟨rfl, rfl, rfl⟩ := hr132
    refine j_st (st := [.int (if 1 ≤ a1 ∧ a1 ≤ a0 then 1 else 0)]) rfl ?_
    refine j_if_eq X 35 dX5_set_16 (by decide) (fun c133 => ?_) (fun c133 => ?_)
    · skip
      exact absurd (show (1 : Int32) ≤ a1 ∧ a1 ≤ a0 from hok.1.2.1) (zo_eq.mp c133)
    · skip
      refine j_iload_n X 1 dX5_set_19 rfl rfl ?_
      refine j_i2l X dX5_set_20 ?_
      refine j_st (st := [.long (lI a0.toInt)]) (by rw [l_of a0]) ?_
      refine j_ldc2 X dX5_set_21 wdX5_set_c65 ?_
      refine j_st (st := [.long (lI 16), .long (lI a0.toInt)]) (by rw [l_c16]) ?_
      refine j_iload_n X 2 dX5_set_24 rfl rfl ?_
      refine j_i2l X dX5_set_25 ?_
      refine j_st (st := [.long (lI a1.toInt), .long (lI 16), .long (lI a0.toInt)]) (by rw [l_of a1]) ?_
      refine j_lmul X dX5_set_26 ?_
      refine j_st (st := [.long (lI (16 * a1.toInt)), .long (lI a0.toInt)]) (by rw [lI_mul]) ?_
      refine j_lc_gt X 35 dX5_set_27 dX5_set_28 (by decide) (fun c134 => ?_) (fun c134 => ?_)
      · skip
        exact absurd ((lI_lt hb1 hb0).mp c134) (set_no hok.1)
      · skip
        refine j_iconst X dX5_set_31 (v := 1) (by decide) ?_
        refine j_goto X 36 dX5_set_32 (by decide) ?_
        refine j_istore X dX5_set_36 (by decide) rfl (L' := [some (.ref m), some (.int a0), some (.int a1), some (.int a2), some (.int a3), some (.int a4), some (.int a5), some (.int 1)]) rfl ?_
        refine j_iload X dX5_set_38 rfl ?_
        refine j_if_eq X 88 dX5_set_40 (by decide) (fun c135 => ?_) (fun c135 => ?_)
        · skip
          exact absurd c135 (by decide)
        · skip
          refine j_iload_n X 3 dX5_set_43 rfl rfl ?_
          refine j_iconst X dX5_set_44 (v := 0) (by decide) ?_
          refine j_ldc X dX5_set_45 wdX5_set_c60 ?_
          refine j_callS X nwSQ_ok (As := [.int a2, .int 0, .int 1000000]) (rest := []) rfl (c_X5_in l D hI b0 a2 0 1000000) rfl gX5_set_X5_in ddX5_in ⟨Nat.le_of_ble_eq_true rfl, Nat.le_of_ble_eq_true rfl⟩ (Nat.le_of_ble_eq_true rfl) rfl dX5_set_47 ⟨(by show 0 + 0 ≤ 0; omega), (by show 0 + 0 ≤ 0; omega)⟩ (fun r136 M137 n138 hr139 => ?_)
          obtain ⟨rfl, rfl, rfl⟩ := hr139
          refine j_st (st := [.int (if 0 ≤ a2 ∧ a2 ≤ 1000000 then 1 else 0)]) rfl ?_
          refine j_if_eq X 88 dX5_set_50 (by decide) (fun c140 => ?_) (fun c140 => ?_)
          · skip
            exact absurd hok.2.1 (zo_eq.mp c140)
          · skip
            refine j_iload X dX5_set_53 rfl ?_
            refine j_iconst X dX5_set_55 (v := 0) (by decide) ?_
            refine j_ldc X dX5_set_56 wdX5_set_c60 ?_
            refine j_callS X nwSQ_ok (As := [.int a3, .int 0, .int 1000000]) (rest := []) rfl (c_X5_in l D hI b0 a3 0 1000000) rfl gX5_set_X5_in ddX5_in ⟨Nat.le_of_ble_eq_true rfl, Nat.le_of_ble_eq_true rfl⟩ (Nat.le_of_ble_eq_true rfl) rfl dX5_set_58 ⟨(by show 0 + 0 ≤ 0; omega), (by show 0 + 0 ≤ 0; omega)⟩ (fun r141 M142 n143 hr144 => ?_)
            obtain ⟨rfl, rfl, rfl⟩ := hr144
            refine j_st (st := [.int (if 0 ≤ a3 ∧ a3 ≤ 1000000 then 1 else 0)]) rfl ?_
            refine j_if_eq X 88 dX5_set_61 (by decide) (fun c145 => ?_) (fun c145 => ?_)
            · skip
              exact absurd hok.2.2.1 (zo_eq.mp c145)
            · skip
              refine j_iload X dX5_set_64 rfl ?_
              refine j_iconst X dX5_set_66 (v := 1) (by decide) ?_
              refine j_sipush X dX5_set_67 (v := 200) (by decide) ?_
              refine j_callS X nwSQ_ok (As := [.int a4, .int 1, .int 200]) (rest := []) rfl (c_X5_in l D hI b0 a4 1 200) rfl gX5_set_X5_in ddX5_in ⟨Nat.le_of_ble_eq_true rfl, Nat.le_of_ble_eq_true rfl⟩ (Nat.le_of_ble_eq_true rfl) rfl dX5_set_70 ⟨(by show 0 + 0 ≤ 0; omega), (by show 0 + 0 ≤ 0; omega)⟩ (fun r146 M147 n148 hr149 => ?_)
              obtain ⟨rfl, rfl, rfl⟩ := hr149
              refine j_st (st := [.int (if 1 ≤ a4 ∧ a4 ≤ 200 then 1 else 0)]) rfl ?_
              refine j_if_eq X 88 dX5_set_73 (by decide) (fun c150 => ?_) (fun c150 => ?_)
              · skip
                exact absurd hok.2.2.2.1 (zo_eq.mp c150)
              · skip
                refine j_iload X dX5_set_76 rfl ?_
                refine j_iconst X dX5_set_78 (v := 1) (by decide) ?_
                refine j_sipush X dX5_set_79 (v := 400) (by decide) ?_
                refine j_callS X nwSQ_ok (As := [.int a5, .int 1, .int 400]) (rest := []) rfl (c_X5_in l D hI b0 a5 1 400) rfl gX5_set_X5_in ddX5_in ⟨Nat.le_of_ble_eq_true rfl, Nat.le_of_ble_eq_true rfl⟩ (Nat.le_of_ble_eq_true rfl) rfl dX5_set_82 ⟨(by show 0 + 0 ≤ 0; omega), (by show 0 + 0 ≤ 0; omega)⟩ (fun r151 M152 n153 hr154 => ?_)
                obtain ⟨rfl, rfl, rfl⟩ := hr154
                refine j_st (st := [.int (if 1 ≤ a5 ∧ a5 ≤ 400 then 1 else 0)]) rfl ?_
                refine j_if_ne X 91 dX5_set_85 (by decide) (fun c155 => ?_) (fun c155 => ?_)
                · skip
                  refine j_aload_n X 0 dX5_set_91 rfl rfl ?_
                  refine j_iload_n X 1 dX5_set_92 rfl rfl ?_
                  refine j_put X hm rfl iwX5_set_X5 tyX5 tyX5_ok nmX5 0 (by decide) lkX5_set_7 rfl rfl rfl (Nat.le_of_ble_eq_true rfl) (fs' := [.int a0, .int sl, .int la, .int sp, .int rm, .int ln, .ref (m + 1), .ref (m + 2), .ref (m + 3), .ref (m + 4), .ref (m + 5), .ref (m + 6), .int (nI qu.length), .int lt, .int pr, .int tl, .int tk, .int sm, .int my, .int gr, .int rc]) rfl dX5_set_93 ?_
                  generalize eM156 : j_up M m (.inr (5, [.int a0, .int sl, .int la, .int sp, .int rm, .int ln, .ref (m + 1), .ref (m + 2), .ref (m + 3), .ref (m + 4), .ref (m + 5), .ref (m + 6), .int (nI qu.length), .int lt, .int pr, .int tl, .int tk, .int sm, .int my, .int gr, .int rc])) = M156
                  have h158 : M156 (m + 1) = some (.inl (0, 400, .inl ft)) := by rw [← eM156, j_up_ne _ _ (by omega)]; exact h1
                  have h159 : M156 (m + 2) = some (.inl (0, 400, .inl fk)) := by rw [← eM156, j_up_ne _ _ (by omega)]; exact h2
                  have h160 : M156 (m + 3) = some (.inl (0, 400, .inl fv)) := by rw [← eM156, j_up_ne _ _ (by omega)]; exact h3
                  have h161 : M156 (m + 4) = some (.inl (0, 2, .inl kp)) := by rw [← eM156, j_up_ne _ _ (by omega)]; exact h4
                  have h162 : M156 (m + 5) = some (.inl (0, 2, .inl mk)) := by rw [← eM156, j_up_ne _ _ (by omega)]; exact h5
                  have h163 : M156 (m + 6) = some (.inl (0, 2400, .inl qa)) := by rw [← eM156, j_up_ne _ _ (by omega)]; exact h6
                  have h164 : M156 m = some (.inr (5, [.int a0, .int sl, .int la, .int sp, .int rm, .int ln, .ref (m + 1), .ref (m + 2), .ref (m + 3), .ref (m + 4), .ref (m + 5), .ref (m + 6), .int (nI qu.length), .int lt, .int pr, .int tl, .int tk, .int sm, .int my, .int gr, .int rc])) := by rw [← eM156]; exact j_up_self _ _ _
                  refine j_aload_n X 0 dX5_set_96 rfl rfl ?_
                  refine j_iload_n X 2 dX5_set_97 rfl rfl ?_
                  refine j_put X h164 rfl iwX5_set_X5 tyX5 tyX5_ok nmX5 1 (by decide) lkX5_set_13 rfl rfl rfl (Nat.le_of_ble_eq_true rfl) (fs' := [.int a0, .int a1, .int la, .int sp, .int rm, .int ln, .ref (m + 1), .ref (m + 2), .ref (m + 3), .ref (m + 4), .ref (m + 5), .ref (m + 6), .int (nI qu.length), .int lt, .int pr, .int tl, .int tk, .int sm, .int my, .int gr, .int rc]) rfl dX5_set_98 ?_
                  generalize eM165 : j_up M156 m (.inr (5, [.int a0, .int a1, .int la, .int sp, .int rm, .int ln, .ref (m + 1), .ref (m + 2), .ref (m + 3), .ref (m + 4), .ref (m + 5), .ref (m + 6), .int (nI qu.length), .int lt, .int pr, .int tl, .int tk, .int sm, .int my, .int gr, .int rc])) = M165
                  have h166 : M165 (m + 1) = some (.inl (0, 400, .inl ft)) := by rw [← eM165, j_up_ne _ _ (by omega)]; exact h158
                  have h167 : M165 (m + 2) = some (.inl (0, 400, .inl fk)) := by rw [← eM165, j_up_ne _ _ (by omega)]; exact h159
                  have h168 : M165 (m + 3) = some (.inl (0, 400, .inl fv)) := by rw [← eM165, j_up_ne _ _ (by omega)]; exact h160
                  have h169 : M165 (m + 4) = some (.inl (0, 2, .inl kp)) := by rw [← eM165, j_up_ne _ _ (by omega)]; exact h161
                  have h170 : M165 (m + 5) = some (.inl (0, 2, .inl mk)) := by rw [← eM165, j_up_ne _ _ (by omega)]; exact h162
                  have h171 : M165 (m + 6) = some (.inl (0, 2400, .inl qa)) := by rw [← eM165, j_up_ne _ _ (by omega)]; exact h163
                  have h173 : M165 m = some (.inr (5, [.int a0, .int a1, .int la, .int sp, .int rm, .int ln, .ref (m + 1), .ref (m + 2), .ref (m + 3), .ref (m + 4), .ref (m + 5), .ref (m + 6), .int (nI qu.length), .int lt, .int pr, .int tl, .int tk, .int sm, .int my, .int gr, .int rc])) := by rw [← eM165]; exact j_up_self _ _ _
                  refine j_aload_n X 0 dX5_set_101 rfl rfl ?_
                  refine j_iload_n X 3 dX5_set_102 rfl rfl ?_
                  refine j_put X h173 rfl iwX5_set_X5 tyX5 tyX5_ok nmX5 2 (by decide) lkX5_set_67 rfl rfl rfl (Nat.le_of_ble_eq_true rfl) (fs' := [.int a0, .int a1, .int a2, .int sp, .int rm, .int ln, .ref (m + 1), .ref (m + 2), .ref (m + 3), .ref (m + 4), .ref (m + 5), .ref (m + 6), .int (nI qu.length), .int lt, .int pr, .int tl, .int tk, .int sm, .int my, .int gr, .int rc]) rfl dX5_set_103 ?_
                  generalize eM174 : j_up M165 m (.inr (5, [.int a0, .int a1, .int a2, .int sp, .int rm, .int ln, .ref (m + 1), .ref (m + 2), .ref (m + 3), .ref (m + 4), .ref (m + 5), .ref (m + 6), .int (nI qu.length), .int lt, .int pr, .int tl, .int tk, .int sm, .int my, .int gr, .int rc])) = M174
                  have h175 : M174 (m + 1) = some (.inl (0, 400, .inl ft)) := by rw [← eM174, j_up_ne _ _ (by omega)]; exact h166
                  have h176 : M174 (m + 2) = some (.inl (0, 400, .inl fk)) := by rw [← eM174, j_up_ne _ _ (by omega)]; exact h167
                  have h177 : M174 (m + 3) = some (.inl (0, 400, .inl fv)) := by rw [← eM174, j_up_ne _ _ (by omega)]; exact h168
                  have h178 : M174 (m + 4) = some (.inl (0, 2, .inl kp)) := by rw [← eM174, j_up_ne _ _ (by omega)]; exact h169
                  have h179 : M174 (m + 5) = some (.inl (0, 2, .inl mk)) := by rw [← eM174, j_up_ne _ _ (by omega)]; exact h170
                  have h180 : M174 (m + 6) = some (.inl (0, 2400, .inl qa)) := by rw [← eM174, j_up_ne _ _ (by omega)]; exact h171
                  have h182 : M174 m = some (.inr (5, [.int a0, .int a1, .int a2, .int sp, .int rm, .int ln, .ref (m + 1), .ref (m + 2), .ref (m + 3), .ref (m + 4), .ref (m + 5), .ref (m + 6), .int (nI qu.length), .int lt, .int pr, .int tl, .int tk, .int sm, .int my, .int gr, .int rc])) := by rw [← eM174]; exact j_up_self _ _ _
                  refine j_aload_n X 0 dX5_set_106 rfl rfl ?_
                  refine j_iload X dX5_set_107 rfl ?_
                  refine j_put X h182 rfl iwX5_set_X5 tyX5 tyX5_ok nmX5 3 (by decide) lkX5_set_70 rfl rfl rfl (Nat.le_of_ble_eq_true rfl) (fs' := [.int a0, .int a1, .int a2, .int a3, .int rm, .int ln, .ref (m + 1), .ref (m + 2), .ref (m + 3), .ref (m + 4), .ref (m + 5), .ref (m + 6), .int (nI qu.length), .int lt, .int pr, .int tl, .int tk, .int sm, .int my, .int gr, .int rc]) rfl dX5_set_109 ?_
                  generalize eM183 : j_up M174 m (.inr (5, [.int a0, .int a1, .int a2, .int a3, .int rm, .int ln, .ref (m + 1), .ref (m + 2), .ref (m + 3), .ref (m + 4), .ref (m + 5), .ref (m + 6), .int (nI qu.length), .int lt, .int pr, .int tl, .int tk, .int sm, .int my, .int gr, .int rc])) = M183
                  have h184 : M183 (m + 1) = some (.inl (0, 400, .inl ft)) := by rw [← eM183, j_up_ne _ _ (by omega)]; exact h175
                  have h185 : M183 (m + 2) = some (.inl (0, 400, .inl fk)) := by rw [← eM183, j_up_ne _ _ (by omega)]; exact h176
                  have h186 : M183 (m + 3) = some (.inl (0, 400, .inl fv)) := by rw [← eM183, j_up_ne _ _ (by omega)]; exact h177
                  have h187 : M183 (m + 4) = some (.inl (0, 2, .inl kp)) := by rw [← eM183, j_up_ne _ _ (by omega)]; exact h178
                  have h188 : M183 (m + 5) = some (.inl (0, 2, .inl mk)) := by rw [← eM183, j_up_ne _ _ (by omega)]; exact h179
                  have h189 : M183 (m + 6) = some (.inl (0, 2400, .inl qa)) := by rw [← eM183, j_up_ne _ _ (by omega)]; exact h180
                  have h191 : M183 m = some (.inr (5, [.int a0, .int a1, .int a2, .int a3, .int rm, .int ln, .ref (m + 1), .ref (m + 2), .ref (m + 3), .ref (m + 4), .ref (m + 5), .ref (m + 6), .int (nI qu.length), .int lt, .int pr, .int tl, .int tk, .int sm, .int my, .int gr, .int rc])) := by rw [← eM183]; exact j_up_self _ _ _
                  refine j_aload_n X 0 dX5_set_112 rfl rfl ?_
                  refine j_iload X dX5_set_113 rfl ?_
                  refine j_put X h191 rfl iwX5_set_X5 tyX5 tyX5_ok nmX5 4 (by decide) lkX5_set_16 rfl rfl rfl (Nat.le_of_ble_eq_true rfl) (fs' := [.int a0, .int a1, .int a2, .int a3, .int a4, .int ln, .ref (m + 1), .ref (m + 2), .ref (m + 3), .ref (m + 4), .ref (m + 5), .ref (m + 6), .int (nI qu.length), .int lt, .int pr, .int tl, .int tk, .int sm, .int my, .int gr, .int rc]) rfl dX5_set_115 ?_
                  generalize eM192 : j_up M183 m (.inr (5, [.int a0, .int a1, .int a2, .int a3, .int a4, .int ln, .ref (m + 1), .ref (m + 2), .ref (m + 3), .ref (m + 4), .ref (m + 5), .ref (m + 6), .int (nI qu.length), .int lt, .int pr, .int tl, .int tk, .int sm, .int my, .int gr, .int rc])) = M192
                  have h193 : M192 (m + 1) = some (.inl (0, 400, .inl ft)) := by rw [← eM192, j_up_ne _ _ (by omega)]; exact h184
                  have h194 : M192 (m + 2) = some (.inl (0, 400, .inl fk)) := by rw [← eM192, j_up_ne _ _ (by omega)]; exact h185
                  have h195 : M192 (m + 3) = some (.inl (0, 400, .inl fv)) := by rw [← eM192, j_up_ne _ _ (by omega)]; exact h186
                  have h196 : M192 (m + 4) = some (.inl (0, 2, .inl kp)) := by rw [← eM192, j_up_ne _ _ (by omega)]; exact h187
                  have h197 : M192 (m + 5) = some (.inl (0, 2, .inl mk)) := by rw [← eM192, j_up_ne _ _ (by omega)]; exact h188
                  have h198 : M192 (m + 6) = some (.inl (0, 2400, .inl qa)) := by rw [← eM192, j_up_ne _ _ (by omega)]; exact h189
                  have h200 : M192 m = some (.inr (5, [.int a0, .int a1, .int a2, .int a3, .int a4, .int ln, .ref (m + 1), .ref (m + 2), .ref (m + 3), .ref (m + 4), .ref (m + 5), .ref (m + 6), .int (nI qu.length), .int lt, .int pr, .int tl, .int tk, .int sm, .int my, .int gr, .int rc])) := by rw [← eM192]; exact j_up_self _ _ _
                  refine j_aload_n X 0 dX5_set_118 rfl rfl ?_
                  refine j_iload X dX5_set_119 rfl ?_
                  refine j_put X h200 rfl iwX5_set_X5 tyX5 tyX5_ok nmX5 5 (by decide) lkX5_set_19 rfl rfl rfl (Nat.le_of_ble_eq_true rfl) (fs' := [.int a0, .int a1, .int a2, .int a3, .int a4, .int a5, .ref (m + 1), .ref (m + 2), .ref (m + 3), .ref (m + 4), .ref (m + 5), .ref (m + 6), .int (nI qu.length), .int lt, .int pr, .int tl, .int tk, .int sm, .int my, .int gr, .int rc]) rfl dX5_set_121 ?_
                  generalize eM201 : j_up M192 m (.inr (5, [.int a0, .int a1, .int a2, .int a3, .int a4, .int a5, .ref (m + 1), .ref (m + 2), .ref (m + 3), .ref (m + 4), .ref (m + 5), .ref (m + 6), .int (nI qu.length), .int lt, .int pr, .int tl, .int tk, .int sm, .int my, .int gr, .int rc])) = M201
                  have h202 : M201 (m + 1) = some (.inl (0, 400, .inl ft)) := by rw [← eM201, j_up_ne _ _ (by omega)]; exact h193
                  have h203 : M201 (m + 2) = some (.inl (0, 400, .inl fk)) := by rw [← eM201, j_up_ne _ _ (by omega)]; exact h194
                  have h204 : M201 (m + 3) = some (.inl (0, 400, .inl fv)) := by rw [← eM201, j_up_ne _ _ (by omega)]; exact h195
                  have h205 : M201 (m + 4) = some (.inl (0, 2, .inl kp)) := by rw [← eM201, j_up_ne _ _ (by omega)]; exact h196
                  have h206 : M201 (m + 5) = some (.inl (0, 2, .inl mk)) := by rw [← eM201, j_up_ne _ _ (by omega)]; exact h197
                  have h207 : M201 (m + 6) = some (.inl (0, 2400, .inl qa)) := by rw [← eM201, j_up_ne _ _ (by omega)]; exact h198
                  have h209 : M201 m = some (.inr (5, [.int a0, .int a1, .int a2, .int a3, .int a4, .int a5, .ref (m + 1), .ref (m + 2), .ref (m + 3), .ref (m + 4), .ref (m + 5), .ref (m + 6), .int (nI qu.length), .int lt, .int pr, .int tl, .int tk, .int sm, .int my, .int gr, .int rc])) := by rw [← eM201]; exact j_up_self _ _ _
                  refine j_aload_n X 0 dX5_set_124 rfl rfl ?_
                  refine j_callV X nwSQ_ok (As := []) (rest := []) h209 rfl rfl (c_X5_forget l D hI b0 h209 ⟨h202, h203, h204, h205, h206, h207⟩) rfl gX5_set_X5_forget ⟨rfl, ddX5_forget⟩ ⟨Nat.le_of_ble_eq_true rfl, Nat.le_of_ble_eq_true rfl⟩ (Nat.le_of_ble_eq_true rfl) rfl dX5_set_125 ⟨(by show 0 + 0 ≤ 0; omega), (by show 0 + 0 ≤ 0; omega)⟩ (fun r210 M211 n212 hr213 => ?_)
                  obtain ⟨rfl, rfl, hm2, hr2, hf2⟩ := hr213
                  refine j_st (st := []) rfl ?_
                  refine j_iconst X dX5_set_128 (v := 0) (by decide) ?_
                  exact j_iret X hlk hr (by omega) (by omega) dX5_set_129 ⟨rfl, rfl, ⟨_, _, _, _, _, _, _, _, _, _, hm2, hr2, ⟨rfl, rfl, rfl, rfl, Nat.zero_le _, Nat.zero_le _, Nat.zero_le _, fun i hi => absurd hi (Nat.not_lt_zero i), fun i hi => absurd hi (Nat.not_lt_zero i), fun i hi => absurd hi (Nat.not_lt_zero i)⟩⟩, fun q hq => by rw [hf2 _ (by omega), ← eM201, j_up_ne _ _ (by omega), ← eM192, j_up_ne _ _ (by omega), ← eM183, j_up_ne _ _ (by omega), ← eM174, j_up_ne _ _ (by omega), ← eM165, j_up_ne _ _ (by omega), ← eM156, j_up_ne _ _ (by omega)]⟩
                · skip
                  exact absurd hok.2.2.2.2 (zo_eq.mp c155)
set_option maxHeartbeats 800000 in
set_option maxRecDepth 100000 in
theorem c_X5_kindT (l : Launch) (D : va_G) {ty : jT} {cA : ClassId} (hI : ty[0]? = some (cA, .int)) (b0 : Nat) {M : jM} {n m : Nat} {w sl la sp rm ln mA mB lt pr tl tk : Int32} {A B : List Ev} {qu : List Rec} (h : RF M m w sl la sp rm ln mA mB lt pr tl tk A B qu) {j : Nat} {rc1 : Rec} (hj : j < qu.length) (hrc : qu[j]? = some rc1) : Ct l D ty vwCl nwSQ b0 yX5_kind wsX5_kind 1 22 0 0 [.ref m, .int (nI j)] M n (j_rd (.int rc1.1) M n) := by
  obtain ⟨sm, my, gr, rc, ft, fk, fv, kp, mk, qa, hm, hr0, hk0, hk1, hm0, hm1, hlA, hlB, hlQ, hA, hB, hQ⟩ := id h
  have hm : M m = some (.inr (5, [.int w, .int sl, .int la, .int sp, .int rm, .int ln, .ref (m + 1), .ref (m + 2), .ref (m + 3), .ref (m + 4), .ref (m + 5), .ref (m + 6), .int (nI qu.length), .int lt, .int pr, .int tl, .int tk, .int sm, .int my, .int gr, .int rc])) := hm
  obtain ⟨h1, h2, h3, h4, h5, h6⟩ := id hr0
  have hq := hQ j hj
  rw [hrc] at hq
  cases hq
  refine j_start (cc := cX5_kind) (maxL := 2) (ret := (some .int)) (by decide) rfl [some (.ref m), some (.int (nI j))] (Nat.le_of_ble_eq_true rfl) rfl ?_
  intro p e s m0 below meth c X hlk hr hnm
  refine j_iload_n X 1 dX5_kind_0 rfl rfl ?_
  refine j_iconst X dX5_kind_1 (v := 0) (by decide) ?_
  refine j_aload_n X 0 dX5_kind_2 rfl rfl ?_
  refine j_get X hm rfl iwX5_kind_X5 12 (by decide) lkX5_kind_45 rfl dX5_kind_3 ?_
  refine j_iconst X dX5_kind_6 (v := 1) (by decide) ?_
  refine j_isub X dX5_kind_7 ?_
  refine j_callS X nwSQ_ok (As := [.int (nI j), .int 0, .int ((nI qu.length) - 1)]) (rest := []) rfl (c_X5_in l D hI b0 (nI j) 0 ((nI qu.length) - 1)) rfl gX5_kind_X5_in ddX5_in ⟨Nat.le_of_ble_eq_true rfl, Nat.le_of_ble_eq_true rfl⟩ (Nat.le_of_ble_eq_true rfl) rfl dX5_kind_8 ⟨(by show 0 + 0 ≤ 0; omega), (by show 0 + 0 ≤ 0; omega)⟩ (fun r214 M215 n216 hr217 => ?_)
  obtain ⟨rfl, rfl, rfl⟩ := hr217
  refine j_st (st := [.int (if 0 ≤ (nI j) ∧ (nI j) ≤ ((nI qu.length) - 1) then 1 else 0)]) rfl ?_
  refine j_if_eq X 26 dX5_kind_11 (by decide) (fun c218 => ?_) (fun c218 => ?_)
  · skip
    exact absurd ⟨nI_pos' (by omega), by rw [show nI qu.length - 1 = nI (qu.length - 1) from by obtain ⟨z, hz⟩ : ∃ z, qu.length = z + 1 := ⟨qu.length - 1, by omega⟩; rw [hz]; exact nI_pred z]; exact nI_le (by omega) (by omega)⟩ (zo_eq.mp c218)
  · skip
    refine j_aload_n X 0 dX5_kind_14 rfl rfl ?_
    refine j_get X hm rfl iwX5_kind_X5 11 (by decide) lkX5_kind_38 rfl dX5_kind_15 ?_
    refine j_bipush X dX5_kind_18 (v := 6) (by decide) ?_
    refine j_iload_n X 1 dX5_kind_20 rfl rfl ?_
    refine j_imul X dX5_kind_21 ?_
    refine j_st (st := [.int (nI (6 * j)), .ref (m + 6)]) (by rw [show 6 * (nI j) = nI (6 * j) from pk_mul 6 j]) ?_
    refine j_iald X h6 hI (vp_in_nI (show 6 * j < 2400 by omega) (by decide)) (v := qa (6 * j)) (congrArg qa (nI_clamp (show 6 * j < 2 ^ 31 by omega))) dX5_kind_22 ?_
    refine j_goto X 27 dX5_kind_23 (by decide) ?_
    exact j_iret X hlk hr (by omega) (by omega) dX5_kind_27 ⟨rfl, rfl, rfl⟩
set_option maxHeartbeats 800000 in
set_option maxRecDepth 100000 in
theorem c_X5_kindF (l : Launch) (D : va_G) {ty : jT} {cA : ClassId} (hI : ty[0]? = some (cA, .int)) (b0 : Nat) {M : jM} {n m : Nat} {w sl la sp rm ln mA mB lt pr tl tk : Int32} {A B : List Ev} {qu : List Rec} (h : RF M m w sl la sp rm ln mA mB lt pr tl tk A B qu) {i : Int32} (hi : i < 0 ∨ nI qu.length ≤ i) : Ct l D ty vwCl nwSQ b0 yX5_kind wsX5_kind 1 22 0 0 [.ref m, .int i] M n (j_rd (.int 0) M n) := by
  obtain ⟨sm, my, gr, rc, ft, fk, fv, kp, mk, qa, hm, hr0, hk0, hk1, hm0, hm1, hlA, hlB, hlQ, hA, hB, hQ⟩ := id h
  have hm : M m = some (.inr (5, [.int w, .int sl, .int la, .int sp, .int rm, .int ln, .ref (m + 1), .ref (m + 2), .ref (m + 3), .ref (m + 4), .ref (m + 5), .ref (m + 6), .int (nI qu.length), .int lt, .int pr, .int tl, .int tk, .int sm, .int my, .int gr, .int rc])) := hm
  obtain ⟨h1, h2, h3, h4, h5, h6⟩ := id hr0
  have hw : ¬ ((0 : Int32) ≤ i ∧ i ≤ nI qu.length - 1) := by
    intro g
    have g1 := i_le.mp g.1
    have g2 := i_le.mp g.2
    rw [show (nI qu.length - 1).toInt = (qu.length : Int) - 1 from pk_sub_toInt (b := 1) (by omega) (by decide)] at g2
    rcases hi with hi | hi
    · have := i_lt.mp hi
      omega
    · have := i_le.mp hi
      rw [nI_toInt (by omega)] at this
      omega
  refine j_start (cc := cX5_kind) (maxL := 2) (ret := (some .int)) (by decide) rfl [some (.ref m), some (.int i)] (Nat.le_of_ble_eq_true rfl) rfl ?_
  intro p e s m0 below meth c X hlk hr hnm
  refine j_iload_n X 1 dX5_kind_0 rfl rfl ?_
  refine j_iconst X dX5_kind_1 (v := 0) (by decide) ?_
  refine j_aload_n X 0 dX5_kind_2 rfl rfl ?_
  refine j_get X hm rfl iwX5_kind_X5 12 (by decide) lkX5_kind_45 rfl dX5_kind_3 ?_
  refine j_iconst X dX5_kind_6 (v := 1) (by decide) ?_
  refine j_isub X dX5_kind_7 ?_
  refine j_callS X nwSQ_ok (As := [.int i, .int 0, .int ((nI qu.length) - 1)]) (rest := []) rfl (c_X5_in l D hI b0 i 0 ((nI qu.length) - 1)) rfl gX5_kind_X5_in ddX5_in ⟨Nat.le_of_ble_eq_true rfl, Nat.le_of_ble_eq_true rfl⟩ (Nat.le_of_ble_eq_true rfl) rfl dX5_kind_8 ⟨(by show 0 + 0 ≤ 0; omega), (by show 0 + 0 ≤ 0; omega)⟩ (fun r219 M220 n221 hr222 => ?_)
  obtain ⟨rfl, rfl, rfl⟩ := hr222
  refine j_st (st := [.int (if 0 ≤ i ∧ i ≤ ((nI qu.length) - 1) then 1 else 0)]) rfl ?_
  refine j_if_eq X 26 dX5_kind_11 (by decide) (fun c223 => ?_) (fun c223 => ?_)
  · skip
    refine j_iconst X dX5_kind_26 (v := 0) (by decide) ?_
    exact j_iret X hlk hr (by omega) (by omega) dX5_kind_27 ⟨rfl, rfl, rfl⟩
  · skip
    exact absurd (zo_ne.mp c223) hw
set_option maxHeartbeats 800000 in
set_option maxRecDepth 100000 in
theorem c_X5_fieldT (l : Launch) (D : va_G) {ty : jT} {cA : ClassId} (hI : ty[0]? = some (cA, .int)) (b0 : Nat) {M : jM} {n m : Nat} {w sl la sp rm ln mA mB lt pr tl tk : Int32} {A B : List Ev} {qu : List Rec} (h : RF M m w sl la sp rm ln mA mB lt pr tl tk A B qu) {j k : Nat} {rc1 : Rec} (hj : j < qu.length) (hk : k < 5) (hrc : qu[j]? = some rc1) : Ct l D ty vwCl nwSQ b0 yX5_field wsX5_field 1 22 0 0 [.ref m, .int (nI j), .int (nI k)] M n (j_rd (.int (rec_get rc1 (k + 1))) M n) := by
  obtain ⟨sm, my, gr, rc, ft, fk, fv, kp, mk, qa, hm, hr0, hk0, hk1, hm0, hm1, hlA, hlB, hlQ, hA, hB, hQ⟩ := id h
  have hm : M m = some (.inr (5, [.int w, .int sl, .int la, .int sp, .int rm, .int ln, .ref (m + 1), .ref (m + 2), .ref (m + 3), .ref (m + 4), .ref (m + 5), .ref (m + 6), .int (nI qu.length), .int lt, .int pr, .int tl, .int tk, .int sm, .int my, .int gr, .int rc])) := hm
  obtain ⟨h1, h2, h3, h4, h5, h6⟩ := id hr0
  have hq := hQ j hj
  rw [hrc] at hq
  cases hq
  refine j_start (cc := cX5_field) (maxL := 3) (ret := (some .int)) (by decide) rfl [some (.ref m), some (.int (nI j)), some (.int (nI k))] (Nat.le_of_ble_eq_true rfl) rfl ?_
  intro p e s m0 below meth c X hlk hr hnm
  refine j_iload_n X 1 dX5_field_0 rfl rfl ?_
  refine j_iconst X dX5_field_1 (v := 0) (by decide) ?_
  refine j_aload_n X 0 dX5_field_2 rfl rfl ?_
  refine j_get X hm rfl iwX5_field_X5 12 (by decide) lkX5_field_45 rfl dX5_field_3 ?_
  refine j_iconst X dX5_field_6 (v := 1) (by decide) ?_
  refine j_isub X dX5_field_7 ?_
  refine j_callS X nwSQ_ok (As := [.int (nI j), .int 0, .int ((nI qu.length) - 1)]) (rest := []) rfl (c_X5_in l D hI b0 (nI j) 0 ((nI qu.length) - 1)) rfl gX5_field_X5_in ddX5_in ⟨Nat.le_of_ble_eq_true rfl, Nat.le_of_ble_eq_true rfl⟩ (Nat.le_of_ble_eq_true rfl) rfl dX5_field_8 ⟨(by show 0 + 0 ≤ 0; omega), (by show 0 + 0 ≤ 0; omega)⟩ (fun r224 M225 n226 hr227 => ?_)
  obtain ⟨rfl, rfl, rfl⟩ := hr227
  refine j_st (st := [.int (if 0 ≤ (nI j) ∧ (nI j) ≤ ((nI qu.length) - 1) then 1 else 0)]) rfl ?_
  refine j_if_eq X 39 dX5_field_11 (by decide) (fun c228 => ?_) (fun c228 => ?_)
  · skip
    exact absurd ⟨nI_pos' (by omega), by rw [show nI qu.length - 1 = nI (qu.length - 1) from by obtain ⟨z, hz⟩ : ∃ z, qu.length = z + 1 := ⟨qu.length - 1, by omega⟩; rw [hz]; exact nI_pred z]; exact nI_le (by omega) (by omega)⟩ (zo_eq.mp c228)
  · skip
    refine j_iload_n X 2 dX5_field_14 rfl rfl ?_
    refine j_iconst X dX5_field_15 (v := 0) (by decide) ?_
    refine j_iconst X dX5_field_16 (v := 4) (by decide) ?_
    refine j_callS X nwSQ_ok (As := [.int (nI k), .int 0, .int 4]) (rest := []) rfl (c_X5_in l D hI b0 (nI k) 0 4) rfl gX5_field_X5_in ddX5_in ⟨Nat.le_of_ble_eq_true rfl, Nat.le_of_ble_eq_true rfl⟩ (Nat.le_of_ble_eq_true rfl) rfl dX5_field_17 ⟨(by show 0 + 0 ≤ 0; omega), (by show 0 + 0 ≤ 0; omega)⟩ (fun r229 M230 n231 hr232 => ?_)
    obtain ⟨rfl, rfl, rfl⟩ := hr232
    refine j_st (st := [.int (if 0 ≤ (nI k) ∧ (nI k) ≤ 4 then 1 else 0)]) rfl ?_
    refine j_if_eq X 39 dX5_field_20 (by decide) (fun c233 => ?_) (fun c233 => ?_)
    · skip
      exact absurd ⟨nI_pos' (by omega), nI_le (b := 4) (by omega) (by decide)⟩ (zo_eq.mp c233)
    · skip
      refine j_aload_n X 0 dX5_field_23 rfl rfl ?_
      refine j_get X hm rfl iwX5_field_X5 11 (by decide) lkX5_field_38 rfl dX5_field_24 ?_
      refine j_bipush X dX5_field_27 (v := 6) (by decide) ?_
      refine j_iload_n X 1 dX5_field_29 rfl rfl ?_
      refine j_imul X dX5_field_30 ?_
      refine j_st (st := [.int (nI (6 * j)), .ref (m + 6)]) (by rw [show 6 * (nI j) = nI (6 * j) from pk_mul 6 j]) ?_
      refine j_iconst X dX5_field_31 (v := 1) (by decide) ?_
      refine j_iadd X dX5_field_32 ?_
      refine j_st (st := [.int (nI (6 * j + 1)), .ref (m + 6)]) (by rw [show (nI (6 * j)) + 1 = nI (6 * j + 1) from nI_add _ 1]) ?_
      refine j_iload_n X 2 dX5_field_33 rfl rfl ?_
      refine j_iadd X dX5_field_34 ?_
      refine j_st (st := [.int (nI (6 * j + 1 + k)), .ref (m + 6)]) (by rw [show (nI (6 * j + 1)) + (nI k) = nI (6 * j + 1 + k) from nI_add _ _]) ?_
      refine j_iald X h6 hI (vp_in_nI (show 6 * j + 1 + k < 2400 by omega) (by decide)) (v := qa (6 * j + 1 + k)) (congrArg qa (nI_clamp (show 6 * j + 1 + k < 2 ^ 31 by omega))) dX5_field_35 ?_
      refine j_goto X 40 dX5_field_36 (by decide) ?_
      exact j_iret X hlk hr (by omega) (by omega) dX5_field_40 ⟨by rw [rec_row _ _ (k + 1) (by omega)]; rw [show 6 * j + 1 + k = 6 * j + (k + 1) by omega], rfl, rfl⟩
set_option maxHeartbeats 800000 in
set_option maxRecDepth 100000 in
theorem c_X5_fieldF (l : Launch) (D : va_G) {ty : jT} {cA : ClassId} (hI : ty[0]? = some (cA, .int)) (b0 : Nat) {M : jM} {n m : Nat} {w sl la sp rm ln mA mB lt pr tl tk : Int32} {A B : List Ev} {qu : List Rec} (h : RF M m w sl la sp rm ln mA mB lt pr tl tk A B qu) {i : Int32} (hi : i < 0 ∨ nI qu.length ≤ i) (k : Int32) : Ct l D ty vwCl nwSQ b0 yX5_field wsX5_field 1 22 0 0 [.ref m, .int i, .int k] M n (j_rd (.int 0) M n) := by
  obtain ⟨sm, my, gr, rc, ft, fk, fv, kp, mk, qa, hm, hr0, hk0, hk1, hm0, hm1, hlA, hlB, hlQ, hA, hB, hQ⟩ := id h
  have hm : M m = some (.inr (5, [.int w, .int sl, .int la, .int sp, .int rm, .int ln, .ref (m + 1), .ref (m + 2), .ref (m + 3), .ref (m + 4), .ref (m + 5), .ref (m + 6), .int (nI qu.length), .int lt, .int pr, .int tl, .int tk, .int sm, .int my, .int gr, .int rc])) := hm
  obtain ⟨h1, h2, h3, h4, h5, h6⟩ := id hr0
  have hw : ¬ ((0 : Int32) ≤ i ∧ i ≤ nI qu.length - 1) := by
    intro g
    have g1 := i_le.mp g.1
    have g2 := i_le.mp g.2
    rw [show (nI qu.length - 1).toInt = (qu.length : Int) - 1 from pk_sub_toInt (b := 1) (by omega) (by decide)] at g2
    rcases hi with hi | hi
    · have := i_lt.mp hi
      omega
    · have := i_le.mp hi
      rw [nI_toInt (by omega)] at this
      omega
  refine j_start (cc := cX5_field) (maxL := 3) (ret := (some .int)) (by decide) rfl [some (.ref m), some (.int i), some (.int k)] (Nat.le_of_ble_eq_true rfl) rfl ?_
  intro p e s m0 below meth c X hlk hr hnm
  refine j_iload_n X 1 dX5_field_0 rfl rfl ?_
  refine j_iconst X dX5_field_1 (v := 0) (by decide) ?_
  refine j_aload_n X 0 dX5_field_2 rfl rfl ?_
  refine j_get X hm rfl iwX5_field_X5 12 (by decide) lkX5_field_45 rfl dX5_field_3 ?_
  refine j_iconst X dX5_field_6 (v := 1) (by decide) ?_
  refine j_isub X dX5_field_7 ?_
  refine j_callS X nwSQ_ok (As := [.int i, .int 0, .int ((nI qu.length) - 1)]) (rest := []) rfl (c_X5_in l D hI b0 i 0 ((nI qu.length) - 1)) rfl gX5_field_X5_in ddX5_in ⟨Nat.le_of_ble_eq_true rfl, Nat.le_of_ble_eq_true rfl⟩ (Nat.le_of_ble_eq_true rfl) rfl dX5_field_8 ⟨(by show 0 + 0 ≤ 0; omega), (by show 0 + 0 ≤ 0; omega)⟩ (fun r234 M235 n236 hr237 => ?_)
  obtain ⟨rfl, rfl, rfl⟩ := hr237
  refine j_st (st := [.int (if 0 ≤ i ∧ i ≤ ((nI qu.length) - 1) then 1 else 0)]) rfl ?_
  refine j_if_eq X 39 dX5_field_11 (by decide) (fun c238 => ?_) (fun c238 => ?_)
  · skip
    refine j_iconst X dX5_field_39 (v := 0) (by decide) ?_
    exact j_iret X hlk hr (by omega) (by omega) dX5_field_40 ⟨rfl, rfl, rfl⟩
  · skip
    exact absurd (zo_ne.mp c238) hw
set_option maxHeartbeats 800000 in
set_option maxRecDepth 100000 in
theorem c_X5_fieldK (l : Launch) (D : va_G) {ty : jT} {cA : ClassId} (hI : ty[0]? = some (cA, .int)) (b0 : Nat) {M : jM} {n m : Nat} {w sl la sp rm ln mA mB lt pr tl tk : Int32} {A B : List Ev} {qu : List Rec} (h : RF M m w sl la sp rm ln mA mB lt pr tl tk A B qu) (i : Int32) {k : Int32} (hk : ¬ (0 ≤ k ∧ k ≤ 4)) : Ct l D ty vwCl nwSQ b0 yX5_field wsX5_field 1 22 0 0 [.ref m, .int i, .int k] M n (j_rd (.int 0) M n) := by
  obtain ⟨sm, my, gr, rc, ft, fk, fv, kp, mk, qa, hm, hr0, hk0, hk1, hm0, hm1, hlA, hlB, hlQ, hA, hB, hQ⟩ := id h
  have hm : M m = some (.inr (5, [.int w, .int sl, .int la, .int sp, .int rm, .int ln, .ref (m + 1), .ref (m + 2), .ref (m + 3), .ref (m + 4), .ref (m + 5), .ref (m + 6), .int (nI qu.length), .int lt, .int pr, .int tl, .int tk, .int sm, .int my, .int gr, .int rc])) := hm
  obtain ⟨h1, h2, h3, h4, h5, h6⟩ := id hr0
  refine j_start (cc := cX5_field) (maxL := 3) (ret := (some .int)) (by decide) rfl [some (.ref m), some (.int i), some (.int k)] (Nat.le_of_ble_eq_true rfl) rfl ?_
  intro p e s m0 below meth c X hlk hr hnm
  refine j_iload_n X 1 dX5_field_0 rfl rfl ?_
  refine j_iconst X dX5_field_1 (v := 0) (by decide) ?_
  refine j_aload_n X 0 dX5_field_2 rfl rfl ?_
  refine j_get X hm rfl iwX5_field_X5 12 (by decide) lkX5_field_45 rfl dX5_field_3 ?_
  refine j_iconst X dX5_field_6 (v := 1) (by decide) ?_
  refine j_isub X dX5_field_7 ?_
  refine j_callS X nwSQ_ok (As := [.int i, .int 0, .int ((nI qu.length) - 1)]) (rest := []) rfl (c_X5_in l D hI b0 i 0 ((nI qu.length) - 1)) rfl gX5_field_X5_in ddX5_in ⟨Nat.le_of_ble_eq_true rfl, Nat.le_of_ble_eq_true rfl⟩ (Nat.le_of_ble_eq_true rfl) rfl dX5_field_8 ⟨(by show 0 + 0 ≤ 0; omega), (by show 0 + 0 ≤ 0; omega)⟩ (fun r239 M240 n241 hr242 => ?_)
  obtain ⟨rfl, rfl, rfl⟩ := hr242
  refine j_st (st := [.int (if 0 ≤ i ∧ i ≤ ((nI qu.length) - 1) then 1 else 0)]) rfl ?_
  refine j_if_eq X 39 dX5_field_11 (by decide) (fun c243 => ?_) (fun c243 => ?_)
  · skip
    refine j_iconst X dX5_field_39 (v := 0) (by decide) ?_
    exact j_iret X hlk hr (by omega) (by omega) dX5_field_40 ⟨rfl, rfl, rfl⟩
  · skip
    refine j_iload_n X 2 dX5_field_14 rfl rfl ?_
    refine j_iconst X dX5_field_15 (v := 0) (by decide) ?_
    refine j_iconst X dX5_field_16 (v := 4) (by decide) ?_
    refine j_callS X nwSQ_ok (As := [.int k, .int 0, .int 4]) (rest := []) rfl (c_X5_in l D hI b0 k 0 4) rfl gX5_field_X5_in ddX5_in ⟨Nat.le_of_ble_eq_true rfl, Nat.le_of_ble_eq_true rfl⟩ (Nat.le_of_ble_eq_true rfl) rfl dX5_field_17 ⟨(by show 0 + 0 ≤ 0; omega), (by show 0 + 0 ≤ 0; omega)⟩ (fun r244 M245 n246 hr247 => ?_)
    obtain ⟨rfl, rfl, rfl⟩ := hr247
    refine j_st (st := [.int (if 0 ≤ k ∧ k ≤ 4 then 1 else 0)]) rfl ?_
    refine j_if_eq X 39 dX5_field_20 (by decide) (fun c248 => ?_) (fun c248 => ?_)
    · skip
      refine j_iconst X dX5_field_39 (v := 0) (by decide) ?_
      exact j_iret X hlk hr (by omega) (by omega) dX5_field_40 ⟨rfl, rfl, rfl⟩
    · skip
      exact absurd (zo_ne.mp c248) hk
set_option maxHeartbeats 800000 in
set_option maxRecDepth 100000 in
theorem c_X5_popE (l : Launch) (D : va_G) {ty : jT} {cA : ClassId} (hI : ty[0]? = some (cA, .int)) (b0 : Nat) {M : jM} {n m : Nat} {w sl la sp rm ln mA mB lt pr tl tk : Int32} {A B : List Ev} (h : RF M m w sl la sp rm ln mA mB lt pr tl tk A B []) : Ct l D ty vwCl nwSQ b0 yX5_pop wsX5_pop 0 0 0 0 [.ref m] M n (j_rd (.int 0) M n) := by
  obtain ⟨sm, my, gr, rc, ft, fk, fv, kp, mk, qa, hm, hr0, hk0, hk1, hm0, hm1, hlA, hlB, hlQ, hA, hB, hQ⟩ := id h
  have hm : M m = some (.inr (5, [.int w, .int sl, .int la, .int sp, .int rm, .int ln, .ref (m + 1), .ref (m + 2), .ref (m + 3), .ref (m + 4), .ref (m + 5), .ref (m + 6), .int (0), .int lt, .int pr, .int tl, .int tk, .int sm, .int my, .int gr, .int rc])) := hm
  obtain ⟨h1, h2, h3, h4, h5, h6⟩ := id hr0
  refine j_start (cc := cX5_pop) (maxL := 2) (ret := (some .boolean)) (by decide) rfl [some (.ref m), none] (Nat.le_of_ble_eq_true rfl) rfl ?_
  intro p e s m0 below meth c X hlk hr hnm
  refine j_aload_n X 0 dX5_pop_0 rfl rfl ?_
  refine j_get X hm rfl iwX5_pop_X5 12 (by decide) lkX5_pop_45 rfl dX5_pop_1 ?_
  refine j_if_ne X 9 dX5_pop_4 (by decide) (fun c249 => ?_) (fun c249 => ?_)
  · skip
    exact absurd rfl c249
  · skip
    refine j_iconst X dX5_pop_7 (v := 0) (by decide) ?_
    exact j_zret X hlk hr (by omega) (by omega) (by decide) dX5_pop_8 ⟨rfl, rfl, rfl⟩
set_option maxHeartbeats 800000 in
set_option maxRecDepth 100000 in
theorem c_X5_popC (l : Launch) (D : va_G) {ty : jT} {cA : ClassId} (hI : ty[0]? = some (cA, .int)) (b0 : Nat) {M : jM} {n m : Nat} {w sl la sp rm ln mA mB lt pr tl tk : Int32} {A B : List Ev} {qu : List Rec} {rc1 : Rec} (h : RF M m w sl la sp rm ln mA mB lt pr tl tk A B (rc1 :: qu)) : Ct l D ty vwCl nwSQ b0 yX5_pop wsX5_pop 0 0 0 0 [.ref m] M n (fun r M' n' => r = some (.int 1) ∧ n = n' ∧ RF M' m w sl la sp rm ln mA mB lt pr tl tk A B qu ∧ ∀ q, (q < m ∨ m + 6 < q) → M' q = M q) := by
  obtain ⟨sm, my, gr, rc, ft, fk, fv, kp, mk, qa, hm, hr0, hk0, hk1, hm0, hm1, hlA, hlB, hlQ, hA, hB, hQ⟩ := id h
  have hm : M m = some (.inr (5, [.int w, .int sl, .int la, .int sp, .int rm, .int ln, .ref (m + 1), .ref (m + 2), .ref (m + 3), .ref (m + 4), .ref (m + 5), .ref (m + 6), .int (nI (qu.length + 1)), .int lt, .int pr, .int tl, .int tk, .int sm, .int my, .int gr, .int rc])) := hm
  obtain ⟨h1, h2, h3, h4, h5, h6⟩ := id hr0
  have hlQ : qu.length + 1 ≤ 400 := hlQ
  refine j_start (cc := cX5_pop) (maxL := 2) (ret := (some .boolean)) (by decide) rfl [some (.ref m), none] (Nat.le_of_ble_eq_true rfl) rfl ?_
  intro p e s m0 below meth c X hlk hr hnm
  have loop : ∀ (z i : Nat) (Mi : jM) (qi : Nat → Int32), i + z = 6 * qu.length → Mi m = some (rfO m w sl la sp rm ln (nI qu.length) lt pr tl tk sm my gr rc) → RA Mi m ft fk fv kp mk qi → (∀ q, q < i → qi q = qa (q + 6)) → (∀ q, i ≤ q → qi q = qa q) → (∀ q, (q < m ∨ m + 6 < q) → Mi q = M q) → J p l e { frames := 0, cells := 0, slots := 0, locals := 0 } s m0 ([.ref m] : List Value).toArray below meth c D ty vwCl b0 (MQ below (j_Q D ty vwCl b0 (fun r M' n' => r = some (.int 1) ∧ n = n' ∧ RF M' m w sl la sp rm ln mA mB lt pr tl tk A B qu ∧ ∀ q, (q < m ∨ m + 6 < q) → M' q = M q)) ([.ref m] : List Value).toArray s 0 0 (fun q => b0 ≤ q)) 2 Mi n 0 0 21 [some (.ref m), some (.int (nI i))] [] := by
    intro z
    induction z with
    | zero =>
      intro i Mi qi hz hmi hra hlo hhi hfr
      obtain ⟨h1, h2, h3, h4, h5, h6⟩ := id hra
      have hmi : Mi m = some (.inr (5, [.int w, .int sl, .int la, .int sp, .int rm, .int ln, .ref (m + 1), .ref (m + 2), .ref (m + 3), .ref (m + 4), .ref (m + 5), .ref (m + 6), .int (nI qu.length), .int lt, .int pr, .int tl, .int tk, .int sm, .int my, .int gr, .int rc])) := hmi
      refine j_iload_n X 1 dX5_pop_21 rfl rfl ?_
      refine j_bipush X dX5_pop_22 (v := 6) (by decide) ?_
      refine j_aload_n X 0 dX5_pop_24 rfl rfl ?_
      refine j_get X hmi rfl iwX5_pop_X5 12 (by decide) lkX5_pop_45 rfl dX5_pop_25 ?_
      refine j_imul X dX5_pop_28 ?_
      refine j_st (st := [.int (nI (6 * qu.length)), .int (nI i)]) (by rw [show 6 * (nI qu.length) = nI (6 * qu.length) from pk_mul 6 qu.length]) ?_
      refine j_icmp_ge X 53 dX5_pop_29 (by decide) (fun c250 => ?_) (fun c250 => ?_)
      · skip
        refine j_iconst X dX5_pop_53 (v := 1) (by decide) ?_
        exact j_zret X hlk hr (by omega) (by omega) (by decide) dX5_pop_54 ⟨rfl, rfl, ⟨sm, my, gr, rc, ft, fk, fv, kp, mk, qi, hmi, hra, hk0, hk1, hm0, hm1, hlA, hlB, by omega, hA, hB, fun j hj => by have hq := hQ (j + 1) (by show j + 1 < qu.length + 1; omega); rw [List.getElem?_cons_succ] at hq; rw [hq]; unfold rowAt; rw [hlo _ (by omega), hlo _ (by omega), hlo _ (by omega), hlo _ (by omega), hlo _ (by omega), hlo _ (by omega), show 6 * (j + 1) = 6 * j + 6 by omega]⟩, hfr⟩
      · skip
        exact absurd (nI_le (by omega) (by omega)) c250
    | succ z ih =>
      intro i Mi qi hz hmi hra hlo hhi hfr
      obtain ⟨h1, h2, h3, h4, h5, h6⟩ := id hra
      have hmi : Mi m = some (.inr (5, [.int w, .int sl, .int la, .int sp, .int rm, .int ln, .ref (m + 1), .ref (m + 2), .ref (m + 3), .ref (m + 4), .ref (m + 5), .ref (m + 6), .int (nI qu.length), .int lt, .int pr, .int tl, .int tk, .int sm, .int my, .int gr, .int rc])) := hmi
      refine j_iload_n X 1 dX5_pop_21 rfl rfl ?_
      refine j_bipush X dX5_pop_22 (v := 6) (by decide) ?_
      refine j_aload_n X 0 dX5_pop_24 rfl rfl ?_
      refine j_get X hmi rfl iwX5_pop_X5 12 (by decide) lkX5_pop_45 rfl dX5_pop_25 ?_
      refine j_imul X dX5_pop_28 ?_
      refine j_st (st := [.int (nI (6 * qu.length)), .int (nI i)]) (by rw [show 6 * (nI qu.length) = nI (6 * qu.length) from pk_mul 6 qu.length]) ?_
      refine j_icmp_ge X 53 dX5_pop_29 (by decide) (fun c251 => ?_) (fun c251 => ?_)
      · skip
        exact absurd c251 (nI_ge (by omega) (by omega))
      · skip
        refine j_aload_n X 0 dX5_pop_32 rfl rfl ?_
        refine j_get X hmi rfl iwX5_pop_X5 11 (by decide) lkX5_pop_38 rfl dX5_pop_33 ?_
        refine j_iload_n X 1 dX5_pop_36 rfl rfl ?_
        refine j_aload_n X 0 dX5_pop_37 rfl rfl ?_
        refine j_get X hmi rfl iwX5_pop_X5 11 (by decide) lkX5_pop_38 rfl dX5_pop_38 ?_
        refine j_iload_n X 1 dX5_pop_41 rfl rfl ?_
        refine j_bipush X dX5_pop_42 (v := 6) (by decide) ?_
        refine j_iadd X dX5_pop_44 ?_
        refine j_st (st := [.int (nI (i + 6)), .ref (m + 6), .int (nI i), .ref (m + 6)]) (by rw [show (nI i) + 6 = nI (i + 6) from nI_add _ 6]) ?_
        refine j_iald X h6 hI (vp_in_nI (show i + 6 < 2400 by omega) (by decide)) (v := qi (i + 6)) (congrArg qi (nI_clamp (show i + 6 < 2 ^ 31 by omega))) dX5_pop_45 ?_
        refine j_iast X h6 hI (vp_in_nI (show i < 2400 by omega) (by decide)) dX5_pop_46 ?_
        rw [nI_clamp (show i < 2 ^ 31 by omega)]
        generalize eM252 : j_up Mi (m + 6) (.inl (0, 2400, .inl (upd qi i (qi (i + 6))))) = M252
        have h253 : M252 m = some (.inr (5, [.int w, .int sl, .int la, .int sp, .int rm, .int ln, .ref (m + 1), .ref (m + 2), .ref (m + 3), .ref (m + 4), .ref (m + 5), .ref (m + 6), .int (nI qu.length), .int lt, .int pr, .int tl, .int tk, .int sm, .int my, .int gr, .int rc])) := by rw [← eM252, j_up_ne _ _ (by omega)]; exact hmi
        have h254 : M252 (m + 1) = some (.inl (0, 400, .inl ft)) := by rw [← eM252, j_up_ne _ _ (by omega)]; exact h1
        have h255 : M252 (m + 2) = some (.inl (0, 400, .inl fk)) := by rw [← eM252, j_up_ne _ _ (by omega)]; exact h2
        have h256 : M252 (m + 3) = some (.inl (0, 400, .inl fv)) := by rw [← eM252, j_up_ne _ _ (by omega)]; exact h3
        have h257 : M252 (m + 4) = some (.inl (0, 2, .inl kp)) := by rw [← eM252, j_up_ne _ _ (by omega)]; exact h4
        have h258 : M252 (m + 5) = some (.inl (0, 2, .inl mk)) := by rw [← eM252, j_up_ne _ _ (by omega)]; exact h5
        have h260 : M252 (m + 6) = some (.inl (0, 2400, .inl (upd qi i (qi (i + 6))))) := by rw [← eM252]; exact j_up_self _ _ _
        refine j_iinc X dX5_pop_47 rfl (v := nI (i + 1)) (nI_1 _) (by decide) rfl (L' := [some (.ref m), some (.int (nI (i + 1)))]) rfl ?_
        refine j_goto X 21 dX5_pop_50 (by decide) ?_
        exact ih (i + 1) M252 _ (by omega) h253 ⟨h254, h255, h256, h257, h258, h260⟩ (pop_lo hlo hhi) (pop_hi hhi) (fun q hq => by rw [← eM252, j_up_ne _ _ (by omega)]; exact hfr q hq)
  refine j_aload_n X 0 dX5_pop_0 rfl rfl ?_
  refine j_get X hm rfl iwX5_pop_X5 12 (by decide) lkX5_pop_45 rfl dX5_pop_1 ?_
  refine j_if_ne X 9 dX5_pop_4 (by decide) (fun c261 => ?_) (fun c261 => ?_)
  · skip
    refine j_aload_n X 0 dX5_pop_9 rfl rfl ?_
    refine j_dup X dX5_pop_10 rfl ?_
    refine j_get X hm rfl iwX5_pop_X5 12 (by decide) lkX5_pop_45 rfl dX5_pop_11 ?_
    refine j_iconst X dX5_pop_14 (v := 1) (by decide) ?_
    refine j_isub X dX5_pop_15 ?_
    refine j_st (st := [.int (nI qu.length), .ref m]) (by rw [nI_pred]) ?_
    refine j_put X hm rfl iwX5_pop_X5 tyX5 tyX5_ok nmX5 12 (by decide) lkX5_pop_45 rfl rfl rfl (Nat.le_of_ble_eq_true rfl) (fs' := [.int w, .int sl, .int la, .int sp, .int rm, .int ln, .ref (m + 1), .ref (m + 2), .ref (m + 3), .ref (m + 4), .ref (m + 5), .ref (m + 6), .int (nI qu.length), .int lt, .int pr, .int tl, .int tk, .int sm, .int my, .int gr, .int rc]) rfl dX5_pop_16 ?_
    generalize eM262 : j_up M m (.inr (5, [.int w, .int sl, .int la, .int sp, .int rm, .int ln, .ref (m + 1), .ref (m + 2), .ref (m + 3), .ref (m + 4), .ref (m + 5), .ref (m + 6), .int (nI qu.length), .int lt, .int pr, .int tl, .int tk, .int sm, .int my, .int gr, .int rc])) = M262
    have h264 : M262 (m + 1) = some (.inl (0, 400, .inl ft)) := by rw [← eM262, j_up_ne _ _ (by omega)]; exact h1
    have h265 : M262 (m + 2) = some (.inl (0, 400, .inl fk)) := by rw [← eM262, j_up_ne _ _ (by omega)]; exact h2
    have h266 : M262 (m + 3) = some (.inl (0, 400, .inl fv)) := by rw [← eM262, j_up_ne _ _ (by omega)]; exact h3
    have h267 : M262 (m + 4) = some (.inl (0, 2, .inl kp)) := by rw [← eM262, j_up_ne _ _ (by omega)]; exact h4
    have h268 : M262 (m + 5) = some (.inl (0, 2, .inl mk)) := by rw [← eM262, j_up_ne _ _ (by omega)]; exact h5
    have h269 : M262 (m + 6) = some (.inl (0, 2400, .inl qa)) := by rw [← eM262, j_up_ne _ _ (by omega)]; exact h6
    have h270 : M262 m = some (.inr (5, [.int w, .int sl, .int la, .int sp, .int rm, .int ln, .ref (m + 1), .ref (m + 2), .ref (m + 3), .ref (m + 4), .ref (m + 5), .ref (m + 6), .int (nI qu.length), .int lt, .int pr, .int tl, .int tk, .int sm, .int my, .int gr, .int rc])) := by rw [← eM262]; exact j_up_self _ _ _
    refine j_iconst X dX5_pop_19 (v := 0) (by decide) ?_
    refine j_istore_n X 1 dX5_pop_20 rfl (by decide) rfl (L' := [some (.ref m), some (.int 0)]) rfl ?_
    exact loop (6 * qu.length) 0 M262 qa (by omega) h270 ⟨h264, h265, h266, h267, h268, h269⟩ (fun q hq => absurd hq (Nat.not_lt_zero q)) (fun _ _ => rfl) (fun q hq => by rw [← eM262, j_up_ne _ _ (by omega)])
  · skip
    exact absurd c261 (nI_ne0 (n := qu.length + 1) (by omega) (by omega))
set_option maxHeartbeats 800000 in
set_option maxRecDepth 100000 in
theorem c_X5_eventAT (l : Launch) (D : va_G) {ty : jT} {cA : ClassId} (hI : ty[0]? = some (cA, .int)) (b0 : Nat) {M : jM} {n m : Nat} {w sl la sp rm ln mA mB lt pr tl tk : Int32} {A B : List Ev} {qu : List Rec} (h : RF M m w sl la sp rm ln mA mB lt pr tl tk A B qu) {j : Nat} {ev : Ev} (hj : j < A.length) (hev : A[j]? = some ev) (v : Int32) : Ct l D ty vwCl nwSQ b0 yX5_event_ wsX5_event_ 1 22 0 0 [.ref m, .int 0, .int (nI j), .int v] M n (j_rd (.int (if v = 0 then ev.1 else if v = 1 then ev.2.1 else if v = 2 then ev.2.2 else 0)) M n) := by
  obtain ⟨sm, my, gr, rc, ft, fk, fv, kp, mk, qa, hm, hr0, hk0, hk1, hm0, hm1, hlA, hlB, hlQ, hA, hB, hQ⟩ := id h
  have hm : M m = some (.inr (5, [.int w, .int sl, .int la, .int sp, .int rm, .int ln, .ref (m + 1), .ref (m + 2), .ref (m + 3), .ref (m + 4), .ref (m + 5), .ref (m + 6), .int (nI qu.length), .int lt, .int pr, .int tl, .int tk, .int sm, .int my, .int gr, .int rc])) := hm
  obtain ⟨h1, h2, h3, h4, h5, h6⟩ := id hr0
  have hq := hA j hj
  rw [hev] at hq
  cases hq
  refine j_start (cc := cX5_event_) (maxL := 5) (ret := (some .int)) (by decide) rfl [some (.ref m), some (.int 0), some (.int (nI j)), some (.int v), none] (Nat.le_of_ble_eq_true rfl) rfl ?_
  intro p e s m0 below meth c X hlk hr hnm
  refine j_iload_n X 1 dX5_event__0 rfl rfl ?_
  refine j_iconst X dX5_event__1 (v := 0) (by decide) ?_
  refine j_iconst X dX5_event__2 (v := 1) (by decide) ?_
  refine j_callS X nwSQ_ok (As := [.int 0, .int 0, .int 1]) (rest := []) rfl (c_X5_in l D hI b0 0 0 1) rfl gX5_event__X5_in ddX5_in ⟨Nat.le_of_ble_eq_true rfl, Nat.le_of_ble_eq_true rfl⟩ (Nat.le_of_ble_eq_true rfl) rfl dX5_event__3 ⟨(by show 0 + 0 ≤ 0; omega), (by show 0 + 0 ≤ 0; omega)⟩ (fun r271 M272 n273 hr274 => ?_)
  obtain ⟨rfl, rfl, rfl⟩ := hr274
  refine j_st (st := [.int (if 0 ≤ 0 ∧ 0 ≤ 1 then 1 else 0)]) rfl ?_
  refine j_if_eq X 25 dX5_event__6 (by decide) (fun c275 => ?_) (fun c275 => ?_)
  · skip
    exact absurd c275 (by decide)
  · skip
    refine j_iload_n X 2 dX5_event__9 rfl rfl ?_
    refine j_iconst X dX5_event__10 (v := 0) (by decide) ?_
    refine j_aload_n X 0 dX5_event__11 rfl rfl ?_
    refine j_get X hm rfl iwX5_event__X5 9 (by decide) lkX5_event__32 rfl dX5_event__12 ?_
    refine j_iload_n X 1 dX5_event__15 rfl rfl ?_
    refine j_iald X h4 hI (vp_in_nI (n := 0) (by decide) (by decide)) (v := nI A.length) (hk0) dX5_event__16 ?_
    refine j_iconst X dX5_event__17 (v := 1) (by decide) ?_
    refine j_isub X dX5_event__18 ?_
    refine j_callS X nwSQ_ok (As := [.int (nI j), .int 0, .int ((nI A.length) - 1)]) (rest := []) rfl (c_X5_in l D hI b0 (nI j) 0 ((nI A.length) - 1)) rfl gX5_event__X5_in ddX5_in ⟨Nat.le_of_ble_eq_true rfl, Nat.le_of_ble_eq_true rfl⟩ (Nat.le_of_ble_eq_true rfl) rfl dX5_event__19 ⟨(by show 0 + 0 ≤ 0; omega), (by show 0 + 0 ≤ 0; omega)⟩ (fun r276 M277 n278 hr279 => ?_)
    obtain ⟨rfl, rfl, rfl⟩ := hr279
    refine j_st (st := [.int (if 0 ≤ (nI j) ∧ (nI j) ≤ ((nI A.length) - 1) then 1 else 0)]) rfl ?_
    refine j_if_ne X 27 dX5_event__22 (by decide) (fun c280 => ?_) (fun c280 => ?_)
    · skip
      refine j_sipush X dX5_event__27 (v := 200) (by decide) ?_
      refine j_iload_n X 1 dX5_event__30 rfl rfl ?_
      refine j_imul X dX5_event__31 ?_
      refine j_st (st := [.int 0]) rfl ?_
      refine j_iload_n X 2 dX5_event__32 rfl rfl ?_
      refine j_iadd X dX5_event__33 ?_
      refine j_st (st := [.int (nI (0 + j))]) (by rw [show 0 + (nI j) = nI (0 + j) from nI_add 0 _]) ?_
      refine j_istore X dX5_event__34 (by decide) rfl (L' := [some (.ref m), some (.int 0), some (.int (nI j)), some (.int v), some (.int (nI (0 + j)))]) rfl ?_
      refine j_iload_n X 3 dX5_event__36 rfl rfl ?_
      by_cases c281 : v = 0
      · skip
        refine j_tableIn X 64 dX5_event__37 (by rw [c281]; decide) (by rw [c281]; decide) (off := 27) (by rw [c281]; decide) (by decide) ?_
        refine j_aload_n X 0 dX5_event__64 rfl rfl ?_
        refine j_get X hm rfl iwX5_event__X5 6 (by decide) lkX5_event__22 rfl dX5_event__65 ?_
        refine j_iload X dX5_event__68 rfl ?_
        refine j_iald X h1 hI (vp_in_nI (show 0 + j < 400 by omega) (by decide)) (v := ft j) (congrArg ft ((nI_clamp (show 0 + j < 2 ^ 31 by omega)).trans (Nat.zero_add j))) dX5_event__70 ?_
        exact j_iret X hlk hr (by omega) (by omega) dX5_event__71 ⟨congrArg (fun z => some (Value.int z)) (if_pos c281).symm, rfl, rfl⟩
      by_cases c282 : v = 1
      · skip
        refine j_tableIn X 72 dX5_event__37 (by rw [c282]; decide) (by rw [c282]; decide) (off := 35) (by rw [c282]; decide) (by decide) ?_
        refine j_aload_n X 0 dX5_event__72 rfl rfl ?_
        refine j_get X hm rfl iwX5_event__X5 7 (by decide) lkX5_event__26 rfl dX5_event__73 ?_
        refine j_iload X dX5_event__76 rfl ?_
        refine j_iald X h2 hI (vp_in_nI (show 0 + j < 400 by omega) (by decide)) (v := fk j) (congrArg fk ((nI_clamp (show 0 + j < 2 ^ 31 by omega)).trans (Nat.zero_add j))) dX5_event__78 ?_
        exact j_iret X hlk hr (by omega) (by omega) dX5_event__79 ⟨congrArg (fun z => some (Value.int z)) ((if_neg (by rw [c282]; decide)).trans (if_pos c282)).symm, rfl, rfl⟩
      by_cases c283 : v = 2
      · skip
        refine j_tableIn X 80 dX5_event__37 (by rw [c283]; decide) (by rw [c283]; decide) (off := 43) (by rw [c283]; decide) (by decide) ?_
        refine j_aload_n X 0 dX5_event__80 rfl rfl ?_
        refine j_get X hm rfl iwX5_event__X5 8 (by decide) lkX5_event__29 rfl dX5_event__81 ?_
        refine j_iload X dX5_event__84 rfl ?_
        refine j_iald X h3 hI (vp_in_nI (show 0 + j < 400 by omega) (by decide)) (v := fv j) (congrArg fv ((nI_clamp (show 0 + j < 2 ^ 31 by omega)).trans (Nat.zero_add j))) dX5_event__86 ?_
        exact j_iret X hlk hr (by omega) (by omega) dX5_event__87 ⟨congrArg (fun z => some (Value.int z)) ((if_neg (by rw [c283]; decide)).trans ((if_neg (by rw [c283]; decide)).trans (if_pos c283))).symm, rfl, rfl⟩
      · skip
        refine j_tableOut X 88 dX5_event__37 (by have q0 := lv_neT (a := 0) c281 (by decide); have q1 := lv_neT (a := 1) c282 (by decide); have q2 := lv_neT (a := 2) c283 (by decide); omega) (by decide) ?_
        refine j_iconst X dX5_event__88 (v := 0) (by decide) ?_
        exact j_iret X hlk hr (by omega) (by omega) dX5_event__89 ⟨congrArg (fun z => some (Value.int z)) ((if_neg c281).trans ((if_neg c282).trans (if_neg c283))).symm, rfl, rfl⟩
    · skip
      exact absurd ⟨nI_pos' (by omega), by rw [show nI A.length - 1 = nI (A.length - 1) from by obtain ⟨z, hz⟩ : ∃ z, A.length = z + 1 := ⟨A.length - 1, by omega⟩; rw [hz]; exact nI_pred z]; exact nI_le (by omega) (by omega)⟩ (zo_eq.mp c280)
set_option maxHeartbeats 800000 in
set_option maxRecDepth 100000 in
theorem c_X5_eventAF (l : Launch) (D : va_G) {ty : jT} {cA : ClassId} (hI : ty[0]? = some (cA, .int)) (b0 : Nat) {M : jM} {n m : Nat} {w sl la sp rm ln mA mB lt pr tl tk : Int32} {A B : List Ev} {qu : List Rec} (h : RF M m w sl la sp rm ln mA mB lt pr tl tk A B qu) {i : Int32} (hi : i < 0 ∨ nI A.length ≤ i) (v : Int32) : Ct l D ty vwCl nwSQ b0 yX5_event_ wsX5_event_ 1 22 0 0 [.ref m, .int 0, .int i, .int v] M n (j_rd (.int 0) M n) := by
  obtain ⟨sm, my, gr, rc, ft, fk, fv, kp, mk, qa, hm, hr0, hk0, hk1, hm0, hm1, hlA, hlB, hlQ, hA, hB, hQ⟩ := id h
  have hm : M m = some (.inr (5, [.int w, .int sl, .int la, .int sp, .int rm, .int ln, .ref (m + 1), .ref (m + 2), .ref (m + 3), .ref (m + 4), .ref (m + 5), .ref (m + 6), .int (nI qu.length), .int lt, .int pr, .int tl, .int tk, .int sm, .int my, .int gr, .int rc])) := hm
  obtain ⟨h1, h2, h3, h4, h5, h6⟩ := id hr0
  have hw : ¬ ((0 : Int32) ≤ i ∧ i ≤ nI A.length - 1) := by
    intro g
    have g1 := i_le.mp g.1
    have g2 := i_le.mp g.2
    rw [show (nI A.length - 1).toInt = (A.length : Int) - 1 from pk_sub_toInt (b := 1) (by omega) (by decide)] at g2
    rcases hi with hi | hi
    · have := i_lt.mp hi
      omega
    · have := i_le.mp hi
      rw [nI_toInt (by omega)] at this
      omega
  refine j_start (cc := cX5_event_) (maxL := 5) (ret := (some .int)) (by decide) rfl [some (.ref m), some (.int 0), some (.int i), some (.int v), none] (Nat.le_of_ble_eq_true rfl) rfl ?_
  intro p e s m0 below meth c X hlk hr hnm
  refine j_iload_n X 1 dX5_event__0 rfl rfl ?_
  refine j_iconst X dX5_event__1 (v := 0) (by decide) ?_
  refine j_iconst X dX5_event__2 (v := 1) (by decide) ?_
  refine j_callS X nwSQ_ok (As := [.int 0, .int 0, .int 1]) (rest := []) rfl (c_X5_in l D hI b0 0 0 1) rfl gX5_event__X5_in ddX5_in ⟨Nat.le_of_ble_eq_true rfl, Nat.le_of_ble_eq_true rfl⟩ (Nat.le_of_ble_eq_true rfl) rfl dX5_event__3 ⟨(by show 0 + 0 ≤ 0; omega), (by show 0 + 0 ≤ 0; omega)⟩ (fun r284 M285 n286 hr287 => ?_)
  obtain ⟨rfl, rfl, rfl⟩ := hr287
  refine j_st (st := [.int (if 0 ≤ 0 ∧ 0 ≤ 1 then 1 else 0)]) rfl ?_
  refine j_if_eq X 25 dX5_event__6 (by decide) (fun c288 => ?_) (fun c288 => ?_)
  · skip
    exact absurd c288 (by decide)
  · skip
    refine j_iload_n X 2 dX5_event__9 rfl rfl ?_
    refine j_iconst X dX5_event__10 (v := 0) (by decide) ?_
    refine j_aload_n X 0 dX5_event__11 rfl rfl ?_
    refine j_get X hm rfl iwX5_event__X5 9 (by decide) lkX5_event__32 rfl dX5_event__12 ?_
    refine j_iload_n X 1 dX5_event__15 rfl rfl ?_
    refine j_iald X h4 hI (vp_in_nI (n := 0) (by decide) (by decide)) (v := nI A.length) (hk0) dX5_event__16 ?_
    refine j_iconst X dX5_event__17 (v := 1) (by decide) ?_
    refine j_isub X dX5_event__18 ?_
    refine j_callS X nwSQ_ok (As := [.int i, .int 0, .int ((nI A.length) - 1)]) (rest := []) rfl (c_X5_in l D hI b0 i 0 ((nI A.length) - 1)) rfl gX5_event__X5_in ddX5_in ⟨Nat.le_of_ble_eq_true rfl, Nat.le_of_ble_eq_true rfl⟩ (Nat.le_of_ble_eq_true rfl) rfl dX5_event__19 ⟨(by show 0 + 0 ≤ 0; omega), (by show 0 + 0 ≤ 0; omega)⟩ (fun r289 M290 n291 hr292 => ?_)
    obtain ⟨rfl, rfl, rfl⟩ := hr292
    refine j_st (st := [.int (if 0 ≤ i ∧ i ≤ ((nI A.length) - 1) then 1 else 0)]) rfl ?_
    refine j_if_ne X 27 dX5_event__22 (by decide) (fun c293 => ?_) (fun c293 => ?_)
    · skip
      exact absurd (zo_ne.mp c293) hw
    · skip
      refine j_iconst X dX5_event__25 (v := 0) (by decide) ?_
      exact j_iret X hlk hr (by omega) (by omega) dX5_event__26 ⟨rfl, rfl, rfl⟩
set_option maxHeartbeats 800000 in
set_option maxRecDepth 100000 in
theorem c_X5_eventBT (l : Launch) (D : va_G) {ty : jT} {cA : ClassId} (hI : ty[0]? = some (cA, .int)) (b0 : Nat) {M : jM} {n m : Nat} {w sl la sp rm ln mA mB lt pr tl tk : Int32} {A B : List Ev} {qu : List Rec} (h : RF M m w sl la sp rm ln mA mB lt pr tl tk A B qu) {j : Nat} {ev : Ev} (hj : j < B.length) (hev : B[j]? = some ev) (v : Int32) : Ct l D ty vwCl nwSQ b0 yX5_event_ wsX5_event_ 1 22 0 0 [.ref m, .int 1, .int (nI j), .int v] M n (j_rd (.int (if v = 0 then ev.1 else if v = 1 then ev.2.1 else if v = 2 then ev.2.2 else 0)) M n) := by
  obtain ⟨sm, my, gr, rc, ft, fk, fv, kp, mk, qa, hm, hr0, hk0, hk1, hm0, hm1, hlA, hlB, hlQ, hA, hB, hQ⟩ := id h
  have hm : M m = some (.inr (5, [.int w, .int sl, .int la, .int sp, .int rm, .int ln, .ref (m + 1), .ref (m + 2), .ref (m + 3), .ref (m + 4), .ref (m + 5), .ref (m + 6), .int (nI qu.length), .int lt, .int pr, .int tl, .int tk, .int sm, .int my, .int gr, .int rc])) := hm
  obtain ⟨h1, h2, h3, h4, h5, h6⟩ := id hr0
  have hq := hB j hj
  rw [hev] at hq
  cases hq
  refine j_start (cc := cX5_event_) (maxL := 5) (ret := (some .int)) (by decide) rfl [some (.ref m), some (.int 1), some (.int (nI j)), some (.int v), none] (Nat.le_of_ble_eq_true rfl) rfl ?_
  intro p e s m0 below meth c X hlk hr hnm
  refine j_iload_n X 1 dX5_event__0 rfl rfl ?_
  refine j_iconst X dX5_event__1 (v := 0) (by decide) ?_
  refine j_iconst X dX5_event__2 (v := 1) (by decide) ?_
  refine j_callS X nwSQ_ok (As := [.int 1, .int 0, .int 1]) (rest := []) rfl (c_X5_in l D hI b0 1 0 1) rfl gX5_event__X5_in ddX5_in ⟨Nat.le_of_ble_eq_true rfl, Nat.le_of_ble_eq_true rfl⟩ (Nat.le_of_ble_eq_true rfl) rfl dX5_event__3 ⟨(by show 0 + 0 ≤ 0; omega), (by show 0 + 0 ≤ 0; omega)⟩ (fun r294 M295 n296 hr297 => ?_)
  obtain ⟨rfl, rfl, rfl⟩ := hr297
  refine j_st (st := [.int (if 0 ≤ 1 ∧ 1 ≤ 1 then 1 else 0)]) rfl ?_
  refine j_if_eq X 25 dX5_event__6 (by decide) (fun c298 => ?_) (fun c298 => ?_)
  · skip
    exact absurd c298 (by decide)
  · skip
    refine j_iload_n X 2 dX5_event__9 rfl rfl ?_
    refine j_iconst X dX5_event__10 (v := 0) (by decide) ?_
    refine j_aload_n X 0 dX5_event__11 rfl rfl ?_
    refine j_get X hm rfl iwX5_event__X5 9 (by decide) lkX5_event__32 rfl dX5_event__12 ?_
    refine j_iload_n X 1 dX5_event__15 rfl rfl ?_
    refine j_iald X h4 hI (vp_in_nI (n := 1) (by decide) (by decide)) (v := nI B.length) (hk1) dX5_event__16 ?_
    refine j_iconst X dX5_event__17 (v := 1) (by decide) ?_
    refine j_isub X dX5_event__18 ?_
    refine j_callS X nwSQ_ok (As := [.int (nI j), .int 0, .int ((nI B.length) - 1)]) (rest := []) rfl (c_X5_in l D hI b0 (nI j) 0 ((nI B.length) - 1)) rfl gX5_event__X5_in ddX5_in ⟨Nat.le_of_ble_eq_true rfl, Nat.le_of_ble_eq_true rfl⟩ (Nat.le_of_ble_eq_true rfl) rfl dX5_event__19 ⟨(by show 0 + 0 ≤ 0; omega), (by show 0 + 0 ≤ 0; omega)⟩ (fun r299 M300 n301 hr302 => ?_)
    obtain ⟨rfl, rfl, rfl⟩ := hr302
    refine j_st (st := [.int (if 0 ≤ (nI j) ∧ (nI j) ≤ ((nI B.length) - 1) then 1 else 0)]) rfl ?_
    refine j_if_ne X 27 dX5_event__22 (by decide) (fun c303 => ?_) (fun c303 => ?_)
    · skip
      refine j_sipush X dX5_event__27 (v := 200) (by decide) ?_
      refine j_iload_n X 1 dX5_event__30 rfl rfl ?_
      refine j_imul X dX5_event__31 ?_
      refine j_st (st := [.int 200]) rfl ?_
      refine j_iload_n X 2 dX5_event__32 rfl rfl ?_
      refine j_iadd X dX5_event__33 ?_
      refine j_st (st := [.int (nI (200 + j))]) (by rw [show 200 + (nI j) = nI (200 + j) from nI_add 200 _]) ?_
      refine j_istore X dX5_event__34 (by decide) rfl (L' := [some (.ref m), some (.int 1), some (.int (nI j)), some (.int v), some (.int (nI (200 + j)))]) rfl ?_
      refine j_iload_n X 3 dX5_event__36 rfl rfl ?_
      by_cases c304 : v = 0
      · skip
        refine j_tableIn X 64 dX5_event__37 (by rw [c304]; decide) (by rw [c304]; decide) (off := 27) (by rw [c304]; decide) (by decide) ?_
        refine j_aload_n X 0 dX5_event__64 rfl rfl ?_
        refine j_get X hm rfl iwX5_event__X5 6 (by decide) lkX5_event__22 rfl dX5_event__65 ?_
        refine j_iload X dX5_event__68 rfl ?_
        refine j_iald X h1 hI (vp_in_nI (show 200 + j < 400 by omega) (by decide)) (v := ft (200 + j)) (congrArg ft (nI_clamp (show 200 + j < 2 ^ 31 by omega))) dX5_event__70 ?_
        exact j_iret X hlk hr (by omega) (by omega) dX5_event__71 ⟨congrArg (fun z => some (Value.int z)) (if_pos c304).symm, rfl, rfl⟩
      by_cases c305 : v = 1
      · skip
        refine j_tableIn X 72 dX5_event__37 (by rw [c305]; decide) (by rw [c305]; decide) (off := 35) (by rw [c305]; decide) (by decide) ?_
        refine j_aload_n X 0 dX5_event__72 rfl rfl ?_
        refine j_get X hm rfl iwX5_event__X5 7 (by decide) lkX5_event__26 rfl dX5_event__73 ?_
        refine j_iload X dX5_event__76 rfl ?_
        refine j_iald X h2 hI (vp_in_nI (show 200 + j < 400 by omega) (by decide)) (v := fk (200 + j)) (congrArg fk (nI_clamp (show 200 + j < 2 ^ 31 by omega))) dX5_event__78 ?_
        exact j_iret X hlk hr (by omega) (by omega) dX5_event__79 ⟨congrArg (fun z => some (Value.int z)) ((if_neg (by rw [c305]; decide)).trans (if_pos c305)).symm, rfl, rfl⟩
      by_cases c306 : v = 2
      · skip
        refine j_tableIn X 80 dX5_event__37 (by rw [c306]; decide) (by rw [c306]; decide) (off := 43) (by rw [c306]; decide) (by decide) ?_
        refine j_aload_n X 0 dX5_event__80 rfl rfl ?_
        refine j_get X hm rfl iwX5_event__X5 8 (by decide) lkX5_event__29 rfl dX5_event__81 ?_
        refine j_iload X dX5_event__84 rfl ?_
        refine j_iald X h3 hI (vp_in_nI (show 200 + j < 400 by omega) (by decide)) (v := fv (200 + j)) (congrArg fv (nI_clamp (show 200 + j < 2 ^ 31 by omega))) dX5_event__86 ?_
        exact j_iret X hlk hr (by omega) (by omega) dX5_event__87 ⟨congrArg (fun z => some (Value.int z)) ((if_neg (by rw [c306]; decide)).trans ((if_neg (by rw [c306]; decide)).trans (if_pos c306))).symm, rfl, rfl⟩
      · skip
        refine j_tableOut X 88 dX5_event__37 (by have q0 := lv_neT (a := 0) c304 (by decide); have q1 := lv_neT (a := 1) c305 (by decide); have q2 := lv_neT (a := 2) c306 (by decide); omega) (by decide) ?_
        refine j_iconst X dX5_event__88 (v := 0) (by decide) ?_
        exact j_iret X hlk hr (by omega) (by omega) dX5_event__89 ⟨congrArg (fun z => some (Value.int z)) ((if_neg c304).trans ((if_neg c305).trans (if_neg c306))).symm, rfl, rfl⟩
    · skip
      exact absurd ⟨nI_pos' (by omega), by rw [show nI B.length - 1 = nI (B.length - 1) from by obtain ⟨z, hz⟩ : ∃ z, B.length = z + 1 := ⟨B.length - 1, by omega⟩; rw [hz]; exact nI_pred z]; exact nI_le (by omega) (by omega)⟩ (zo_eq.mp c303)
set_option maxHeartbeats 800000 in
set_option maxRecDepth 100000 in
theorem c_X5_eventBF (l : Launch) (D : va_G) {ty : jT} {cA : ClassId} (hI : ty[0]? = some (cA, .int)) (b0 : Nat) {M : jM} {n m : Nat} {w sl la sp rm ln mA mB lt pr tl tk : Int32} {A B : List Ev} {qu : List Rec} (h : RF M m w sl la sp rm ln mA mB lt pr tl tk A B qu) {i : Int32} (hi : i < 0 ∨ nI B.length ≤ i) (v : Int32) : Ct l D ty vwCl nwSQ b0 yX5_event_ wsX5_event_ 1 22 0 0 [.ref m, .int 1, .int i, .int v] M n (j_rd (.int 0) M n) := by
  obtain ⟨sm, my, gr, rc, ft, fk, fv, kp, mk, qa, hm, hr0, hk0, hk1, hm0, hm1, hlA, hlB, hlQ, hA, hB, hQ⟩ := id h
  have hm : M m = some (.inr (5, [.int w, .int sl, .int la, .int sp, .int rm, .int ln, .ref (m + 1), .ref (m + 2), .ref (m + 3), .ref (m + 4), .ref (m + 5), .ref (m + 6), .int (nI qu.length), .int lt, .int pr, .int tl, .int tk, .int sm, .int my, .int gr, .int rc])) := hm
  obtain ⟨h1, h2, h3, h4, h5, h6⟩ := id hr0
  have hw : ¬ ((0 : Int32) ≤ i ∧ i ≤ nI B.length - 1) := by
    intro g
    have g1 := i_le.mp g.1
    have g2 := i_le.mp g.2
    rw [show (nI B.length - 1).toInt = (B.length : Int) - 1 from pk_sub_toInt (b := 1) (by omega) (by decide)] at g2
    rcases hi with hi | hi
    · have := i_lt.mp hi
      omega
    · have := i_le.mp hi
      rw [nI_toInt (by omega)] at this
      omega
  refine j_start (cc := cX5_event_) (maxL := 5) (ret := (some .int)) (by decide) rfl [some (.ref m), some (.int 1), some (.int i), some (.int v), none] (Nat.le_of_ble_eq_true rfl) rfl ?_
  intro p e s m0 below meth c X hlk hr hnm
  refine j_iload_n X 1 dX5_event__0 rfl rfl ?_
  refine j_iconst X dX5_event__1 (v := 0) (by decide) ?_
  refine j_iconst X dX5_event__2 (v := 1) (by decide) ?_
  refine j_callS X nwSQ_ok (As := [.int 1, .int 0, .int 1]) (rest := []) rfl (c_X5_in l D hI b0 1 0 1) rfl gX5_event__X5_in ddX5_in ⟨Nat.le_of_ble_eq_true rfl, Nat.le_of_ble_eq_true rfl⟩ (Nat.le_of_ble_eq_true rfl) rfl dX5_event__3 ⟨(by show 0 + 0 ≤ 0; omega), (by show 0 + 0 ≤ 0; omega)⟩ (fun r307 M308 n309 hr310 => ?_)
  obtain ⟨rfl, rfl, rfl⟩ := hr310
  refine j_st (st := [.int (if 0 ≤ 1 ∧ 1 ≤ 1 then 1 else 0)]) rfl ?_
  refine j_if_eq X 25 dX5_event__6 (by decide) (fun c311 => ?_) (fun c311 => ?_)
  · skip
    exact absurd c311 (by decide)
  · skip
    refine j_iload_n X 2 dX5_event__9 rfl rfl ?_
    refine j_iconst X dX5_event__10 (v := 0) (by decide) ?_
    refine j_aload_n X 0 dX5_event__11 rfl rfl ?_
    refine j_get X hm rfl iwX5_event__X5 9 (by decide) lkX5_event__32 rfl dX5_event__12 ?_
    refine j_iload_n X 1 dX5_event__15 rfl rfl ?_
    refine j_iald X h4 hI (vp_in_nI (n := 1) (by decide) (by decide)) (v := nI B.length) (hk1) dX5_event__16 ?_
    refine j_iconst X dX5_event__17 (v := 1) (by decide) ?_
    refine j_isub X dX5_event__18 ?_
    refine j_callS X nwSQ_ok (As := [.int i, .int 0, .int ((nI B.length) - 1)]) (rest := []) rfl (c_X5_in l D hI b0 i 0 ((nI B.length) - 1)) rfl gX5_event__X5_in ddX5_in ⟨Nat.le_of_ble_eq_true rfl, Nat.le_of_ble_eq_true rfl⟩ (Nat.le_of_ble_eq_true rfl) rfl dX5_event__19 ⟨(by show 0 + 0 ≤ 0; omega), (by show 0 + 0 ≤ 0; omega)⟩ (fun r312 M313 n314 hr315 => ?_)
    obtain ⟨rfl, rfl, rfl⟩ := hr315
    refine j_st (st := [.int (if 0 ≤ i ∧ i ≤ ((nI B.length) - 1) then 1 else 0)]) rfl ?_
    refine j_if_ne X 27 dX5_event__22 (by decide) (fun c316 => ?_) (fun c316 => ?_)
    · skip
      exact absurd (zo_ne.mp c316) hw
    · skip
      refine j_iconst X dX5_event__25 (v := 0) (by decide) ?_
      exact j_iret X hlk hr (by omega) (by omega) dX5_event__26 ⟨rfl, rfl, rfl⟩
set_option maxHeartbeats 800000 in
set_option maxRecDepth 100000 in
theorem c_X5_eventN (l : Launch) (D : va_G) {ty : jT} {cA : ClassId} (hI : ty[0]? = some (cA, .int)) (b0 : Nat) {M : jM} {n m : Nat} {w sl la sp rm ln mA mB lt pr tl tk : Int32} {A B : List Ev} {qu : List Rec} (h : RF M m w sl la sp rm ln mA mB lt pr tl tk A B qu) {z : Int32} (hz : ¬ (0 ≤ z ∧ z ≤ 1)) (i v : Int32) : Ct l D ty vwCl nwSQ b0 yX5_event_ wsX5_event_ 1 22 0 0 [.ref m, .int z, .int i, .int v] M n (j_rd (.int 0) M n) := by
  obtain ⟨sm, my, gr, rc, ft, fk, fv, kp, mk, qa, hm, hr0, hk0, hk1, hm0, hm1, hlA, hlB, hlQ, hA, hB, hQ⟩ := id h
  have hm : M m = some (.inr (5, [.int w, .int sl, .int la, .int sp, .int rm, .int ln, .ref (m + 1), .ref (m + 2), .ref (m + 3), .ref (m + 4), .ref (m + 5), .ref (m + 6), .int (nI qu.length), .int lt, .int pr, .int tl, .int tk, .int sm, .int my, .int gr, .int rc])) := hm
  obtain ⟨h1, h2, h3, h4, h5, h6⟩ := id hr0
  refine j_start (cc := cX5_event_) (maxL := 5) (ret := (some .int)) (by decide) rfl [some (.ref m), some (.int z), some (.int i), some (.int v), none] (Nat.le_of_ble_eq_true rfl) rfl ?_
  intro p e s m0 below meth c X hlk hr hnm
  refine j_iload_n X 1 dX5_event__0 rfl rfl ?_
  refine j_iconst X dX5_event__1 (v := 0) (by decide) ?_
  refine j_iconst X dX5_event__2 (v := 1) (by decide) ?_
  refine j_callS X nwSQ_ok (As := [.int z, .int 0, .int 1]) (rest := []) rfl (c_X5_in l D hI b0 z 0 1) rfl gX5_event__X5_in ddX5_in ⟨Nat.le_of_ble_eq_true rfl, Nat.le_of_ble_eq_true rfl⟩ (Nat.le_of_ble_eq_true rfl) rfl dX5_event__3 ⟨(by show 0 + 0 ≤ 0; omega), (by show 0 + 0 ≤ 0; omega)⟩ (fun r317 M318 n319 hr320 => ?_)
  obtain ⟨rfl, rfl, rfl⟩ := hr320
  refine j_st (st := [.int (if 0 ≤ z ∧ z ≤ 1 then 1 else 0)]) rfl ?_
  refine j_if_eq X 25 dX5_event__6 (by decide) (fun c321 => ?_) (fun c321 => ?_)
  · skip
    refine j_iconst X dX5_event__25 (v := 0) (by decide) ?_
    exact j_iret X hlk hr (by omega) (by omega) dX5_event__26 ⟨rfl, rfl, rfl⟩
  · skip
    exact absurd (zo_ne.mp c321) hz
set_option maxHeartbeats 800000 in
set_option maxRecDepth 100000 in
theorem c_X5_availableR (l : Launch) (D : va_G) {ty : jT} {cA : ClassId} (hI : ty[0]? = some (cA, .int)) (b0 : Nat) {M : jM} {n m : Nat} {w sl la sp rm ln mA mB lt pr tl tk : Int32} {A B : List Ev} {qu : List Rec} (h : RF M m w sl la sp rm ln mA mB lt pr tl tk A B qu) : Ct l D ty vwCl nwSQ b0 yX5_available wsX5_available 0 0 0 0 [.ref m] M n (j_rd (.int (nI qu.length)) M n) := by
  obtain ⟨sm, my, gr, rc, ft, fk, fv, kp, mk, qa, hm, hr0, hk0, hk1, hm0, hm1, hlA, hlB, hlQ, hA, hB, hQ⟩ := id h
  have hm : M m = some (.inr (5, [.int w, .int sl, .int la, .int sp, .int rm, .int ln, .ref (m + 1), .ref (m + 2), .ref (m + 3), .ref (m + 4), .ref (m + 5), .ref (m + 6), .int (nI qu.length), .int lt, .int pr, .int tl, .int tk, .int sm, .int my, .int gr, .int rc])) := hm
  obtain ⟨h1, h2, h3, h4, h5, h6⟩ := id hr0
  refine j_start (cc := cX5_available) (maxL := 1) (ret := (some .int)) (by decide) rfl [some (.ref m)] (Nat.le_of_ble_eq_true rfl) rfl ?_
  intro p e s m0 below meth c X hlk hr hnm
  refine j_aload_n X 0 dX5_available_0 rfl rfl ?_
  refine j_get X hm rfl iwX5_available_X5 12 (by decide) lkX5_available_45 rfl dX5_available_1 ?_
  exact j_iret X hlk hr (by omega) (by omega) dX5_available_4 ⟨rfl, rfl, rfl⟩
