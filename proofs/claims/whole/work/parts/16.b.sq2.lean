set_option maxHeartbeats 800000 in
set_option maxRecDepth 100000 in
theorem c_X4_startAgain (l : Launch) (D : va_G) {ty : jT} {cA : ClassId} (hI : ty[0]? = some (cA, .int)) (b0 : Nat) {M : jM} {n x nb : Nat} {w sl la sp rm ln mA mB lt pr tl tk : Int32} {A B : List Ev} {cs : List Nd} {qu : List Rec} (h : SQ M x nb w sl la sp rm ln mA mB lt pr tl tk A B cs qu) : Ct l D ty vwCl nwSQ b0 yX4_startAgain wsX4_startAgain 1 20 0 0 [.ref x] M n (fun r M' n' => r = none ∧ n = n' ∧ SQ M' x nb w sl la sp rm ln (-2000000000) (-2000000000) 0 0 0 0 ([]) ([]) ([]) ([]) ∧ ∀ q, (q < x ∨ x + 12 < q ∧ q < nb) → M' q = M q) := by
  obtain ⟨hx, hA, hB, hG, hQ, hnd, hnb, hxn⟩ := id h
  have hx : M x = some (.inr (4, [.ref (x + 1), .ref (x + 5), .ref (x + 9), .ref (x + 11), .int w, .int sl, .int la, .int sp, .int rm, .int ln, .int mA, .int mB, .int lt, .int pr, .int tl, .int tk])) := hx
  refine j_start (cc := cX4_startAgain) (maxL := 1) (ret := none) (by decide) rfl [some (.ref x)] (Nat.le_of_ble_eq_true rfl) rfl ?_
  intro p e s m below meth c X hlk hr hnm
  refine j_aload_n X 0 dX4_startAgain_0 rfl rfl ?_
  refine j_get X hx rfl iwX4_startAgain_X4 0 (by decide) lkX4_startAgain_10 rfl dX4_startAgain_1 ?_
  refine j_callV X nwSQ_ok (As := []) (rest := []) hA.cell rfl rfl (c_X0_clear l D hI b0 hA) rfl gX4_startAgain_X0_clear ⟨rfl, ddX0_clear⟩ ⟨Nat.le_of_ble_eq_true rfl, Nat.le_of_ble_eq_true rfl⟩ (Nat.le_of_ble_eq_true rfl) rfl dX4_startAgain_4 ⟨(by show 0 + 0 ≤ 0; omega), (by show 0 + 0 ≤ 0; omega)⟩ (fun r1 M2 n3 hr4 => ?_)
  obtain ⟨rfl, rfl, hp5, hf6⟩ := hr4
  refine j_st (st := []) rfl ?_
  have hp7 : EvAt M2 (x + 5) B := hB.frame (fun q h1 h2 => hf6 q (by omega))
  have hp8 : LnAt M2 (x + 11) qu := hQ.frame (fun q h1 h2 => hf6 q (by omega))
  have hp9 : GrAt M2 (x + 9) cs := hG.frame (fun q hq => hf6 q (by rcases hq with rfl | rfl | ⟨z, hz, rfl⟩ <;> first | omega | (have := hnb z hz; omega)))
  have h10 : M2 x = some (.inr (4, [.ref (x + 1), .ref (x + 5), .ref (x + 9), .ref (x + 11), .int w, .int sl, .int la, .int sp, .int rm, .int ln, .int mA, .int mB, .int lt, .int pr, .int tl, .int tk])) := by rw [hf6 x (by omega)]; exact hx
  refine j_aload_n X 0 dX4_startAgain_7 rfl rfl ?_
  refine j_get X h10 rfl iwX4_startAgain_X4 1 (by decide) lkX4_startAgain_16 rfl dX4_startAgain_8 ?_
  refine j_callV X nwSQ_ok (As := []) (rest := []) hp7.cell rfl rfl (c_X0_clear l D hI b0 hp7) rfl gX4_startAgain_X0_clear ⟨rfl, ddX0_clear⟩ ⟨Nat.le_of_ble_eq_true rfl, Nat.le_of_ble_eq_true rfl⟩ (Nat.le_of_ble_eq_true rfl) rfl dX4_startAgain_11 ⟨(by show 0 + 0 ≤ 0; omega), (by show 0 + 0 ≤ 0; omega)⟩ (fun r11 M12 n13 hr14 => ?_)
  obtain ⟨rfl, rfl, hp15, hf16⟩ := hr14
  refine j_st (st := []) rfl ?_
  have hp17 : EvAt M12 (x + 1) ([]) := hp5.frame (fun q h1 h2 => hf16 q (by omega))
  have hp18 : LnAt M12 (x + 11) qu := hp8.frame (fun q h1 h2 => hf16 q (by omega))
  have hp19 : GrAt M12 (x + 9) cs := hp9.frame (fun q hq => hf16 q (by rcases hq with rfl | rfl | ⟨z, hz, rfl⟩ <;> first | omega | (have := hnb z hz; omega)))
  have h20 : M12 x = some (.inr (4, [.ref (x + 1), .ref (x + 5), .ref (x + 9), .ref (x + 11), .int w, .int sl, .int la, .int sp, .int rm, .int ln, .int mA, .int mB, .int lt, .int pr, .int tl, .int tk])) := by rw [hf16 x (by omega)]; exact h10
  refine j_aload_n X 0 dX4_startAgain_14 rfl rfl ?_
  refine j_get X h20 rfl iwX4_startAgain_X4 2 (by decide) lkX4_startAgain_22 rfl dX4_startAgain_15 ?_
  refine j_callV X nwSQ_ok (As := []) (rest := []) hp19.1 rfl rfl (c_X2_clear l D hI b0 hp19) rfl gX4_startAgain_X2_clear ⟨rfl, ddX2_clear⟩ ⟨Nat.le_of_ble_eq_true rfl, Nat.le_of_ble_eq_true rfl⟩ (Nat.le_of_ble_eq_true rfl) rfl dX4_startAgain_18 ⟨(by show 0 + 0 ≤ 0; omega), (by show 0 + 0 ≤ 0; omega)⟩ (fun r21 M22 n23 hr24 => ?_)
  obtain ⟨rfl, rfl, hp25, hf26⟩ := hr24
  refine j_st (st := []) rfl ?_
  have hp27 : EvAt M22 (x + 1) ([]) := hp17.frame (fun q h1 h2 => hf26 q (by omega))
  have hp28 : EvAt M22 (x + 5) ([]) := hp15.frame (fun q h1 h2 => hf26 q (by omega))
  have hp29 : LnAt M22 (x + 11) qu := hp18.frame (fun q h1 h2 => hf26 q (by omega))
  have h30 : M22 x = some (.inr (4, [.ref (x + 1), .ref (x + 5), .ref (x + 9), .ref (x + 11), .int w, .int sl, .int la, .int sp, .int rm, .int ln, .int mA, .int mB, .int lt, .int pr, .int tl, .int tk])) := by rw [hf26 x (by omega)]; exact h20
  have hnbE : ∀ z ∈ ([] : List Nd), nb ≤ z.1 := fun z hz => by cases hz
  refine j_aload_n X 0 dX4_startAgain_21 rfl rfl ?_
  refine j_get X h30 rfl iwX4_startAgain_X4 3 (by decide) lkX4_startAgain_29 rfl dX4_startAgain_22 ?_
  obtain ⟨fi, hqc⟩ := hp29.cell
  refine j_callV X nwSQ_ok (As := []) (rest := []) hqc rfl rfl (c_X3_clear l D hI b0 hp29) rfl gX4_startAgain_X3_clear ⟨rfl, ddX3_clear⟩ ⟨Nat.le_of_ble_eq_true rfl, Nat.le_of_ble_eq_true rfl⟩ (Nat.le_of_ble_eq_true rfl) rfl dX4_startAgain_25 ⟨(by show 0 + 0 ≤ 0; omega), (by show 0 + 0 ≤ 0; omega)⟩ (fun r31 M32 n33 hr34 => ?_)
  obtain ⟨rfl, rfl, hp35, hf36⟩ := hr34
  refine j_st (st := []) rfl ?_
  have hp37 : EvAt M32 (x + 1) ([]) := hp27.frame (fun q h1 h2 => hf36 q (by omega))
  have hp38 : EvAt M32 (x + 5) ([]) := hp28.frame (fun q h1 h2 => hf36 q (by omega))
  have hp39 : GrAt M32 (x + 9) ([]) := hp25.frame (fun q hq => hf36 q (by rcases hq with rfl | rfl | ⟨z, hz, rfl⟩ <;> first | omega | (have := hnbE z hz; omega)))
  have h40 : M32 x = some (.inr (4, [.ref (x + 1), .ref (x + 5), .ref (x + 9), .ref (x + 11), .int w, .int sl, .int la, .int sp, .int rm, .int ln, .int mA, .int mB, .int lt, .int pr, .int tl, .int tk])) := by rw [hf36 x (by omega)]; exact h30
  refine j_aload_n X 0 dX4_startAgain_28 rfl rfl ?_
  refine j_ldc X dX4_startAgain_29 wdX4_startAgain_c167 ?_
  refine j_put X h40 rfl iwX4_startAgain_X4 tyX4 tyX4_ok nmX4 10 (by decide) lkX4_startAgain_97 rfl rfl rfl (Nat.le_of_ble_eq_true rfl) (fs' := [.ref (x + 1), .ref (x + 5), .ref (x + 9), .ref (x + 11), .int w, .int sl, .int la, .int sp, .int rm, .int ln, .int (-2000000000), .int mB, .int lt, .int pr, .int tl, .int tk]) rfl dX4_startAgain_31 ?_
  generalize eM41 : j_up M32 x (.inr (4, [.ref (x + 1), .ref (x + 5), .ref (x + 9), .ref (x + 11), .int w, .int sl, .int la, .int sp, .int rm, .int ln, .int (-2000000000), .int mB, .int lt, .int pr, .int tl, .int tk])) = M41
  have h43 : M41 x = some (.inr (4, [.ref (x + 1), .ref (x + 5), .ref (x + 9), .ref (x + 11), .int w, .int sl, .int la, .int sp, .int rm, .int ln, .int (-2000000000), .int mB, .int lt, .int pr, .int tl, .int tk])) := by rw [← eM41]; exact j_up_self _ _ _
  have hp44 : EvAt M41 (x + 1) ([]) := hp37.frame (fun q h1 h2 => by rw [← eM41]; exact j_up_ne _ _ (by omega))
  have hp45 : EvAt M41 (x + 5) ([]) := hp38.frame (fun q h1 h2 => by rw [← eM41]; exact j_up_ne _ _ (by omega))
  have hp46 : LnAt M41 (x + 11) ([]) := hp35.frame (fun q h1 h2 => by rw [← eM41]; exact j_up_ne _ _ (by omega))
  have hp47 : GrAt M41 (x + 9) ([]) := hp39.frame (fun q hq => by rw [← eM41]; exact j_up_ne _ _ (by rcases hq with rfl | rfl | ⟨z, hz, rfl⟩ <;> first | omega | (have := hnbE z hz; omega)))
  refine j_aload_n X 0 dX4_startAgain_34 rfl rfl ?_
  refine j_ldc X dX4_startAgain_35 wdX4_startAgain_c167 ?_
  refine j_put X h43 rfl iwX4_startAgain_X4 tyX4 tyX4_ok nmX4 11 (by decide) lkX4_startAgain_104 rfl rfl rfl (Nat.le_of_ble_eq_true rfl) (fs' := [.ref (x + 1), .ref (x + 5), .ref (x + 9), .ref (x + 11), .int w, .int sl, .int la, .int sp, .int rm, .int ln, .int (-2000000000), .int (-2000000000), .int lt, .int pr, .int tl, .int tk]) rfl dX4_startAgain_37 ?_
  generalize eM48 : j_up M41 x (.inr (4, [.ref (x + 1), .ref (x + 5), .ref (x + 9), .ref (x + 11), .int w, .int sl, .int la, .int sp, .int rm, .int ln, .int (-2000000000), .int (-2000000000), .int lt, .int pr, .int tl, .int tk])) = M48
  have h50 : M48 x = some (.inr (4, [.ref (x + 1), .ref (x + 5), .ref (x + 9), .ref (x + 11), .int w, .int sl, .int la, .int sp, .int rm, .int ln, .int (-2000000000), .int (-2000000000), .int lt, .int pr, .int tl, .int tk])) := by rw [← eM48]; exact j_up_self _ _ _
  have hp51 : EvAt M48 (x + 1) ([]) := hp44.frame (fun q h1 h2 => by rw [← eM48]; exact j_up_ne _ _ (by omega))
  have hp52 : EvAt M48 (x + 5) ([]) := hp45.frame (fun q h1 h2 => by rw [← eM48]; exact j_up_ne _ _ (by omega))
  have hp53 : LnAt M48 (x + 11) ([]) := hp46.frame (fun q h1 h2 => by rw [← eM48]; exact j_up_ne _ _ (by omega))
  have hp54 : GrAt M48 (x + 9) ([]) := hp47.frame (fun q hq => by rw [← eM48]; exact j_up_ne _ _ (by rcases hq with rfl | rfl | ⟨z, hz, rfl⟩ <;> first | omega | (have := hnbE z hz; omega)))
  refine j_aload_n X 0 dX4_startAgain_40 rfl rfl ?_
  refine j_iconst X dX4_startAgain_41 (v := 0) (by decide) ?_
  refine j_put X h50 rfl iwX4_startAgain_X4 tyX4 tyX4_ok nmX4 12 (by decide) lkX4_startAgain_144 rfl rfl rfl (Nat.le_of_ble_eq_true rfl) (fs' := [.ref (x + 1), .ref (x + 5), .ref (x + 9), .ref (x + 11), .int w, .int sl, .int la, .int sp, .int rm, .int ln, .int (-2000000000), .int (-2000000000), .int 0, .int pr, .int tl, .int tk]) rfl dX4_startAgain_42 ?_
  generalize eM55 : j_up M48 x (.inr (4, [.ref (x + 1), .ref (x + 5), .ref (x + 9), .ref (x + 11), .int w, .int sl, .int la, .int sp, .int rm, .int ln, .int (-2000000000), .int (-2000000000), .int 0, .int pr, .int tl, .int tk])) = M55
  have h57 : M55 x = some (.inr (4, [.ref (x + 1), .ref (x + 5), .ref (x + 9), .ref (x + 11), .int w, .int sl, .int la, .int sp, .int rm, .int ln, .int (-2000000000), .int (-2000000000), .int 0, .int pr, .int tl, .int tk])) := by rw [← eM55]; exact j_up_self _ _ _
  have hp58 : EvAt M55 (x + 1) ([]) := hp51.frame (fun q h1 h2 => by rw [← eM55]; exact j_up_ne _ _ (by omega))
  have hp59 : EvAt M55 (x + 5) ([]) := hp52.frame (fun q h1 h2 => by rw [← eM55]; exact j_up_ne _ _ (by omega))
  have hp60 : LnAt M55 (x + 11) ([]) := hp53.frame (fun q h1 h2 => by rw [← eM55]; exact j_up_ne _ _ (by omega))
  have hp61 : GrAt M55 (x + 9) ([]) := hp54.frame (fun q hq => by rw [← eM55]; exact j_up_ne _ _ (by rcases hq with rfl | rfl | ⟨z, hz, rfl⟩ <;> first | omega | (have := hnbE z hz; omega)))
  refine j_aload_n X 0 dX4_startAgain_45 rfl rfl ?_
  refine j_iconst X dX4_startAgain_46 (v := 0) (by decide) ?_
  refine j_put X h57 rfl iwX4_startAgain_X4 tyX4 tyX4_ok nmX4 13 (by decide) lkX4_startAgain_153 rfl rfl rfl (Nat.le_of_ble_eq_true rfl) (fs' := [.ref (x + 1), .ref (x + 5), .ref (x + 9), .ref (x + 11), .int w, .int sl, .int la, .int sp, .int rm, .int ln, .int (-2000000000), .int (-2000000000), .int 0, .int 0, .int tl, .int tk]) rfl dX4_startAgain_47 ?_
  generalize eM62 : j_up M55 x (.inr (4, [.ref (x + 1), .ref (x + 5), .ref (x + 9), .ref (x + 11), .int w, .int sl, .int la, .int sp, .int rm, .int ln, .int (-2000000000), .int (-2000000000), .int 0, .int 0, .int tl, .int tk])) = M62
  have h64 : M62 x = some (.inr (4, [.ref (x + 1), .ref (x + 5), .ref (x + 9), .ref (x + 11), .int w, .int sl, .int la, .int sp, .int rm, .int ln, .int (-2000000000), .int (-2000000000), .int 0, .int 0, .int tl, .int tk])) := by rw [← eM62]; exact j_up_self _ _ _
  have hp65 : EvAt M62 (x + 1) ([]) := hp58.frame (fun q h1 h2 => by rw [← eM62]; exact j_up_ne _ _ (by omega))
  have hp66 : EvAt M62 (x + 5) ([]) := hp59.frame (fun q h1 h2 => by rw [← eM62]; exact j_up_ne _ _ (by omega))
  have hp67 : LnAt M62 (x + 11) ([]) := hp60.frame (fun q h1 h2 => by rw [← eM62]; exact j_up_ne _ _ (by omega))
  have hp68 : GrAt M62 (x + 9) ([]) := hp61.frame (fun q hq => by rw [← eM62]; exact j_up_ne _ _ (by rcases hq with rfl | rfl | ⟨z, hz, rfl⟩ <;> first | omega | (have := hnbE z hz; omega)))
  refine j_aload_n X 0 dX4_startAgain_50 rfl rfl ?_
  refine j_iconst X dX4_startAgain_51 (v := 0) (by decide) ?_
  refine j_put X h64 rfl iwX4_startAgain_X4 tyX4 tyX4_ok nmX4 14 (by decide) lkX4_startAgain_156 rfl rfl rfl (Nat.le_of_ble_eq_true rfl) (fs' := [.ref (x + 1), .ref (x + 5), .ref (x + 9), .ref (x + 11), .int w, .int sl, .int la, .int sp, .int rm, .int ln, .int (-2000000000), .int (-2000000000), .int 0, .int 0, .int 0, .int tk]) rfl dX4_startAgain_52 ?_
  generalize eM69 : j_up M62 x (.inr (4, [.ref (x + 1), .ref (x + 5), .ref (x + 9), .ref (x + 11), .int w, .int sl, .int la, .int sp, .int rm, .int ln, .int (-2000000000), .int (-2000000000), .int 0, .int 0, .int 0, .int tk])) = M69
  have h71 : M69 x = some (.inr (4, [.ref (x + 1), .ref (x + 5), .ref (x + 9), .ref (x + 11), .int w, .int sl, .int la, .int sp, .int rm, .int ln, .int (-2000000000), .int (-2000000000), .int 0, .int 0, .int 0, .int tk])) := by rw [← eM69]; exact j_up_self _ _ _
  have hp72 : EvAt M69 (x + 1) ([]) := hp65.frame (fun q h1 h2 => by rw [← eM69]; exact j_up_ne _ _ (by omega))
  have hp73 : EvAt M69 (x + 5) ([]) := hp66.frame (fun q h1 h2 => by rw [← eM69]; exact j_up_ne _ _ (by omega))
  have hp74 : LnAt M69 (x + 11) ([]) := hp67.frame (fun q h1 h2 => by rw [← eM69]; exact j_up_ne _ _ (by omega))
  have hp75 : GrAt M69 (x + 9) ([]) := hp68.frame (fun q hq => by rw [← eM69]; exact j_up_ne _ _ (by rcases hq with rfl | rfl | ⟨z, hz, rfl⟩ <;> first | omega | (have := hnbE z hz; omega)))
  refine j_aload_n X 0 dX4_startAgain_55 rfl rfl ?_
  refine j_iconst X dX4_startAgain_56 (v := 0) (by decide) ?_
  refine j_put X h71 rfl iwX4_startAgain_X4 tyX4 tyX4_ok nmX4 15 (by decide) lkX4_startAgain_159 rfl rfl rfl (Nat.le_of_ble_eq_true rfl) (fs' := [.ref (x + 1), .ref (x + 5), .ref (x + 9), .ref (x + 11), .int w, .int sl, .int la, .int sp, .int rm, .int ln, .int (-2000000000), .int (-2000000000), .int 0, .int 0, .int 0, .int 0]) rfl dX4_startAgain_57 ?_
  generalize eM76 : j_up M69 x (.inr (4, [.ref (x + 1), .ref (x + 5), .ref (x + 9), .ref (x + 11), .int w, .int sl, .int la, .int sp, .int rm, .int ln, .int (-2000000000), .int (-2000000000), .int 0, .int 0, .int 0, .int 0])) = M76
  have h78 : M76 x = some (.inr (4, [.ref (x + 1), .ref (x + 5), .ref (x + 9), .ref (x + 11), .int w, .int sl, .int la, .int sp, .int rm, .int ln, .int (-2000000000), .int (-2000000000), .int 0, .int 0, .int 0, .int 0])) := by rw [← eM76]; exact j_up_self _ _ _
  have hp79 : EvAt M76 (x + 1) ([]) := hp72.frame (fun q h1 h2 => by rw [← eM76]; exact j_up_ne _ _ (by omega))
  have hp80 : EvAt M76 (x + 5) ([]) := hp73.frame (fun q h1 h2 => by rw [← eM76]; exact j_up_ne _ _ (by omega))
  have hp81 : LnAt M76 (x + 11) ([]) := hp74.frame (fun q h1 h2 => by rw [← eM76]; exact j_up_ne _ _ (by omega))
  have hp82 : GrAt M76 (x + 9) ([]) := hp75.frame (fun q hq => by rw [← eM76]; exact j_up_ne _ _ (by rcases hq with rfl | rfl | ⟨z, hz, rfl⟩ <;> first | omega | (have := hnbE z hz; omega)))
  exact j_vret X hlk hr (by omega) (by omega) dX4_startAgain_60 ⟨rfl, rfl, ⟨h78, hp79, hp80, hp82, hp81, List.nodup_nil, hnbE, hxn⟩, fun q hq => by rw [← eM76, j_up_ne _ _ (by omega), ← eM69, j_up_ne _ _ (by omega), ← eM62, j_up_ne _ _ (by omega), ← eM55, j_up_ne _ _ (by omega), ← eM48, j_up_ne _ _ (by omega), ← eM41, j_up_ne _ _ (by omega), hf36 _ (by omega), hf26 _ (by omega), hf16 _ (by omega), hf6 _ (by omega)]⟩
set_option maxHeartbeats 800000 in
set_option maxRecDepth 100000 in
theorem c_X4_setN (l : Launch) (D : va_G) {ty : jT} {cA : ClassId} (hI : ty[0]? = some (cA, .int)) (b0 : Nat) {M : jM} {n x nb : Nat} {w sl la sp rm ln mA mB lt pr tl tk : Int32} {A B : List Ev} {cs : List Nd} {qu : List Rec} (h : SQ M x nb w sl la sp rm ln mA mB lt pr tl tk A B cs qu) (a0 a1 a2 a3 a4 a5 : Int32) (hno : ¬ okS a0 a1 a2 a3 a4 a5) : Ct l D ty vwCl nwSQ b0 yX4_set wsX4_set 2 43 0 0 [.ref x, .int a0, .int a1, .int a2, .int a3, .int a4, .int a5] M n (j_rd (.int (-2)) M n) := by
  obtain ⟨hx, hA, hB, hG, hQ, hnd, hnb, hxn⟩ := id h
  have hx : M x = some (.inr (4, [.ref (x + 1), .ref (x + 5), .ref (x + 9), .ref (x + 11), .int w, .int sl, .int la, .int sp, .int rm, .int ln, .int mA, .int mB, .int lt, .int pr, .int tl, .int tk])) := hx
  refine j_start (cc := cX4_set) (maxL := 7) (ret := (some .int)) (by decide) rfl [some (.ref x), some (.int a0), some (.int a1), some (.int a2), some (.int a3), some (.int a4), some (.int a5)] (Nat.le_of_ble_eq_true rfl) rfl ?_
  intro p e s m below meth c X hlk hr hnm
  refine j_iload_n X 1 dX4_set_0 rfl rfl ?_
  refine j_iload_n X 2 dX4_set_1 rfl rfl ?_
  refine j_callS X nwSQ_ok (As := [.int a0, .int a1]) (rest := []) rfl (c_X4_areWindows l D hI b0 a0 a1) rfl gX4_set_X4_areWindows ddX4_areWindows ⟨Nat.le_of_ble_eq_true rfl, Nat.le_of_ble_eq_true rfl⟩ (Nat.le_of_ble_eq_true rfl) rfl dX4_set_2 ⟨(by show 0 + 0 ≤ 0; omega), (by show 0 + 0 ≤ 0; omega)⟩ (fun r83 M84 n85 hr86 => ?_)
  obtain ⟨rfl, rfl, rfl⟩ := hr86
  refine j_st (st := [.int (if (1 ≤ a0 ∧ a0 ≤ 1000000) ∧ (1 ≤ a1 ∧ a1 ≤ a0) ∧ a0 ≤ 16 * a1 then 1 else 0)]) rfl ?_
  refine j_if_eq X 53 dX4_set_5 (by decide) (fun c87 => ?_) (fun c87 => ?_)
  · skip
    refine j_bipush X dX4_set_53 (v := (-2)) (by decide) ?_
    exact j_iret X hlk hr (by omega) (by omega) dX4_set_55 ⟨rfl, rfl, rfl⟩
  · skip
    refine j_iload_n X 3 dX4_set_8 rfl rfl ?_
    refine j_iconst X dX4_set_9 (v := 0) (by decide) ?_
    refine j_ldc X dX4_set_10 wdX4_set_c59 ?_
    refine j_callS X nwSQ_ok (As := [.int a2, .int 0, .int 1000000]) (rest := []) rfl (c_X4_isWithin l D hI b0 a2 0 1000000) rfl gX4_set_X4_isWithin ddX4_isWithin ⟨Nat.le_of_ble_eq_true rfl, Nat.le_of_ble_eq_true rfl⟩ (Nat.le_of_ble_eq_true rfl) rfl dX4_set_12 ⟨(by show 0 + 0 ≤ 0; omega), (by show 0 + 0 ≤ 0; omega)⟩ (fun r88 M89 n90 hr91 => ?_)
    obtain ⟨rfl, rfl, rfl⟩ := hr91
    refine j_st (st := [.int (if 0 ≤ a2 ∧ a2 ≤ 1000000 then 1 else 0)]) rfl ?_
    refine j_if_eq X 53 dX4_set_15 (by decide) (fun c92 => ?_) (fun c92 => ?_)
    · skip
      refine j_bipush X dX4_set_53 (v := (-2)) (by decide) ?_
      exact j_iret X hlk hr (by omega) (by omega) dX4_set_55 ⟨rfl, rfl, rfl⟩
    · skip
      refine j_iload X dX4_set_18 rfl ?_
      refine j_iconst X dX4_set_20 (v := 0) (by decide) ?_
      refine j_ldc X dX4_set_21 wdX4_set_c59 ?_
      refine j_callS X nwSQ_ok (As := [.int a3, .int 0, .int 1000000]) (rest := []) rfl (c_X4_isWithin l D hI b0 a3 0 1000000) rfl gX4_set_X4_isWithin ddX4_isWithin ⟨Nat.le_of_ble_eq_true rfl, Nat.le_of_ble_eq_true rfl⟩ (Nat.le_of_ble_eq_true rfl) rfl dX4_set_23 ⟨(by show 0 + 0 ≤ 0; omega), (by show 0 + 0 ≤ 0; omega)⟩ (fun r93 M94 n95 hr96 => ?_)
      obtain ⟨rfl, rfl, rfl⟩ := hr96
      refine j_st (st := [.int (if 0 ≤ a3 ∧ a3 ≤ 1000000 then 1 else 0)]) rfl ?_
      refine j_if_eq X 53 dX4_set_26 (by decide) (fun c97 => ?_) (fun c97 => ?_)
      · skip
        refine j_bipush X dX4_set_53 (v := (-2)) (by decide) ?_
        exact j_iret X hlk hr (by omega) (by omega) dX4_set_55 ⟨rfl, rfl, rfl⟩
      · skip
        refine j_iload X dX4_set_29 rfl ?_
        refine j_iconst X dX4_set_31 (v := 1) (by decide) ?_
        refine j_sipush X dX4_set_32 (v := 200) (by decide) ?_
        refine j_callS X nwSQ_ok (As := [.int a4, .int 1, .int 200]) (rest := []) rfl (c_X4_isWithin l D hI b0 a4 1 200) rfl gX4_set_X4_isWithin ddX4_isWithin ⟨Nat.le_of_ble_eq_true rfl, Nat.le_of_ble_eq_true rfl⟩ (Nat.le_of_ble_eq_true rfl) rfl dX4_set_35 ⟨(by show 0 + 0 ≤ 0; omega), (by show 0 + 0 ≤ 0; omega)⟩ (fun r98 M99 n100 hr101 => ?_)
        obtain ⟨rfl, rfl, rfl⟩ := hr101
        refine j_st (st := [.int (if 1 ≤ a4 ∧ a4 ≤ 200 then 1 else 0)]) rfl ?_
        refine j_if_eq X 53 dX4_set_38 (by decide) (fun c102 => ?_) (fun c102 => ?_)
        · skip
          refine j_bipush X dX4_set_53 (v := (-2)) (by decide) ?_
          exact j_iret X hlk hr (by omega) (by omega) dX4_set_55 ⟨rfl, rfl, rfl⟩
        · skip
          refine j_iload X dX4_set_41 rfl ?_
          refine j_iconst X dX4_set_43 (v := 1) (by decide) ?_
          refine j_sipush X dX4_set_44 (v := 400) (by decide) ?_
          refine j_callS X nwSQ_ok (As := [.int a5, .int 1, .int 400]) (rest := []) rfl (c_X4_isWithin l D hI b0 a5 1 400) rfl gX4_set_X4_isWithin ddX4_isWithin ⟨Nat.le_of_ble_eq_true rfl, Nat.le_of_ble_eq_true rfl⟩ (Nat.le_of_ble_eq_true rfl) rfl dX4_set_47 ⟨(by show 0 + 0 ≤ 0; omega), (by show 0 + 0 ≤ 0; omega)⟩ (fun r103 M104 n105 hr106 => ?_)
          obtain ⟨rfl, rfl, rfl⟩ := hr106
          refine j_st (st := [.int (if 1 ≤ a5 ∧ a5 ≤ 400 then 1 else 0)]) rfl ?_
          refine j_if_ne X 56 dX4_set_50 (by decide) (fun c107 => ?_) (fun c107 => ?_)
          · skip
            exact absurd ⟨(zo_ne (q := (1 ≤ a0 ∧ a0 ≤ 1000000) ∧ (1 ≤ a1 ∧ a1 ≤ a0) ∧ a0 ≤ 16 * a1)).mp c87, zo_ne.mp c92, zo_ne.mp c97, zo_ne.mp c102, zo_ne.mp c107⟩ hno
          · skip
            refine j_bipush X dX4_set_53 (v := (-2)) (by decide) ?_
            exact j_iret X hlk hr (by omega) (by omega) dX4_set_55 ⟨rfl, rfl, rfl⟩
set_option maxHeartbeats 800000 in
set_option maxRecDepth 100000 in
theorem c_X4_setY (l : Launch) (D : va_G) {ty : jT} {cA : ClassId} (hI : ty[0]? = some (cA, .int)) (b0 : Nat) {M : jM} {n x nb : Nat} {w sl la sp rm ln mA mB lt pr tl tk : Int32} {A B : List Ev} {cs : List Nd} {qu : List Rec} (h : SQ M x nb w sl la sp rm ln mA mB lt pr tl tk A B cs qu) (a0 a1 a2 a3 a4 a5 : Int32) (hok : okS a0 a1 a2 a3 a4 a5) : Ct l D ty vwCl nwSQ b0 yX4_set wsX4_set 2 43 0 0 [.ref x, .int a0, .int a1, .int a2, .int a3, .int a4, .int a5] M n (fun r M' n' => r = some (.int 0) ∧ n = n' ∧ SQ M' x nb a0 a1 a2 a3 a4 a5 (-2000000000) (-2000000000) 0 0 0 0 ([]) ([]) ([]) ([]) ∧ ∀ q, (q < x ∨ x + 12 < q ∧ q < nb) → M' q = M q) := by
  obtain ⟨hx, hA, hB, hG, hQ, hnd, hnb, hxn⟩ := id h
  have hx : M x = some (.inr (4, [.ref (x + 1), .ref (x + 5), .ref (x + 9), .ref (x + 11), .int w, .int sl, .int la, .int sp, .int rm, .int ln, .int mA, .int mB, .int lt, .int pr, .int tl, .int tk])) := hx
  refine j_start (cc := cX4_set) (maxL := 7) (ret := (some .int)) (by decide) rfl [some (.ref x), some (.int a0), some (.int a1), some (.int a2), some (.int a3), some (.int a4), some (.int a5)] (Nat.le_of_ble_eq_true rfl) rfl ?_
  intro p e s m below meth c X hlk hr hnm
  refine j_iload_n X 1 dX4_set_0 rfl rfl ?_
  refine j_iload_n X 2 dX4_set_1 rfl rfl ?_
  refine j_callS X nwSQ_ok (As := [.int a0, .int a1]) (rest := []) rfl (c_X4_areWindows l D hI b0 a0 a1) rfl gX4_set_X4_areWindows ddX4_areWindows ⟨Nat.le_of_ble_eq_true rfl, Nat.le_of_ble_eq_true rfl⟩ (Nat.le_of_ble_eq_true rfl) rfl dX4_set_2 ⟨(by show 0 + 0 ≤ 0; omega), (by show 0 + 0 ≤ 0; omega)⟩ (fun r108 M109 n110 hr111 => ?_)
  obtain ⟨rfl, rfl, rfl⟩ := hr111
  refine j_st (st := [.int (if (1 ≤ a0 ∧ a0 ≤ 1000000) ∧ (1 ≤ a1 ∧ a1 ≤ a0) ∧ a0 ≤ 16 * a1 then 1 else 0)]) rfl ?_
  refine j_if_eq X 53 dX4_set_5 (by decide) (fun c112 => ?_) (fun c112 => ?_)
  · skip
    exact absurd (show (1 ≤ a0 ∧ a0 ≤ 1000000) ∧ (1 ≤ a1 ∧ a1 ≤ a0) ∧ a0 ≤ 16 * a1 from hok.1) (zo_eq.mp c112)
  · skip
    refine j_iload_n X 3 dX4_set_8 rfl rfl ?_
    refine j_iconst X dX4_set_9 (v := 0) (by decide) ?_
    refine j_ldc X dX4_set_10 wdX4_set_c59 ?_
    refine j_callS X nwSQ_ok (As := [.int a2, .int 0, .int 1000000]) (rest := []) rfl (c_X4_isWithin l D hI b0 a2 0 1000000) rfl gX4_set_X4_isWithin ddX4_isWithin ⟨Nat.le_of_ble_eq_true rfl, Nat.le_of_ble_eq_true rfl⟩ (Nat.le_of_ble_eq_true rfl) rfl dX4_set_12 ⟨(by show 0 + 0 ≤ 0; omega), (by show 0 + 0 ≤ 0; omega)⟩ (fun r113 M114 n115 hr116 => ?_)
    obtain ⟨rfl, rfl, rfl⟩ := hr116
    refine j_st (st := [.int (if 0 ≤ a2 ∧ a2 ≤ 1000000 then 1 else 0)]) rfl ?_
    refine j_if_eq X 53 dX4_set_15 (by decide) (fun c117 => ?_) (fun c117 => ?_)
    · skip
      exact absurd hok.2.1 (zo_eq.mp c117)
    · skip
      refine j_iload X dX4_set_18 rfl ?_
      refine j_iconst X dX4_set_20 (v := 0) (by decide) ?_
      refine j_ldc X dX4_set_21 wdX4_set_c59 ?_
      refine j_callS X nwSQ_ok (As := [.int a3, .int 0, .int 1000000]) (rest := []) rfl (c_X4_isWithin l D hI b0 a3 0 1000000) rfl gX4_set_X4_isWithin ddX4_isWithin ⟨Nat.le_of_ble_eq_true rfl, Nat.le_of_ble_eq_true rfl⟩ (Nat.le_of_ble_eq_true rfl) rfl dX4_set_23 ⟨(by show 0 + 0 ≤ 0; omega), (by show 0 + 0 ≤ 0; omega)⟩ (fun r118 M119 n120 hr121 => ?_)
      obtain ⟨rfl, rfl, rfl⟩ := hr121
      refine j_st (st := [.int (if 0 ≤ a3 ∧ a3 ≤ 1000000 then 1 else 0)]) rfl ?_
      refine j_if_eq X 53 dX4_set_26 (by decide) (fun c122 => ?_) (fun c122 => ?_)
      · skip
        exact absurd hok.2.2.1 (zo_eq.mp c122)
      · skip
        refine j_iload X dX4_set_29 rfl ?_
        refine j_iconst X dX4_set_31 (v := 1) (by decide) ?_
        refine j_sipush X dX4_set_32 (v := 200) (by decide) ?_
        refine j_callS X nwSQ_ok (As := [.int a4, .int 1, .int 200]) (rest := []) rfl (c_X4_isWithin l D hI b0 a4 1 200) rfl gX4_set_X4_isWithin ddX4_isWithin ⟨Nat.le_of_ble_eq_true rfl, Nat.le_of_ble_eq_true rfl⟩ (Nat.le_of_ble_eq_true rfl) rfl dX4_set_35 ⟨(by show 0 + 0 ≤ 0; omega), (by show 0 + 0 ≤ 0; omega)⟩ (fun r123 M124 n125 hr126 => ?_)
        obtain ⟨rfl, rfl, rfl⟩ := hr126
        refine j_st (st := [.int (if 1 ≤ a4 ∧ a4 ≤ 200 then 1 else 0)]) rfl ?_
        refine j_if_eq X 53 dX4_set_38 (by decide) (fun c127 => ?_) (fun c127 => ?_)
        · skip
          exact absurd hok.2.2.2.1 (zo_eq.mp c127)
        · skip
          refine j_iload X dX4_set_41 rfl ?_
          refine j_iconst X dX4_set_43 (v := 1) (by decide) ?_
          refine j_sipush X dX4_set_44 (v := 400) (by decide) ?_
          refine j_callS X nwSQ_ok (As := [.int a5, .int 1, .int 400]) (rest := []) rfl (c_X4_isWithin l D hI b0 a5 1 400) rfl gX4_set_X4_isWithin ddX4_isWithin ⟨Nat.le_of_ble_eq_true rfl, Nat.le_of_ble_eq_true rfl⟩ (Nat.le_of_ble_eq_true rfl) rfl dX4_set_47 ⟨(by show 0 + 0 ≤ 0; omega), (by show 0 + 0 ≤ 0; omega)⟩ (fun r128 M129 n130 hr131 => ?_)
          obtain ⟨rfl, rfl, rfl⟩ := hr131
          refine j_st (st := [.int (if 1 ≤ a5 ∧ a5 ≤ 400 then 1 else 0)]) rfl ?_
          refine j_if_ne X 56 dX4_set_50 (by decide) (fun c132 => ?_) (fun c132 => ?_)
          · skip
            refine j_aload_n X 0 dX4_set_56 rfl rfl ?_
            refine j_iload_n X 1 dX4_set_57 rfl rfl ?_
            refine j_put X hx rfl iwX4_set_X4 tyX4 tyX4_ok nmX4 4 (by decide) lkX4_set_33 rfl rfl rfl (Nat.le_of_ble_eq_true rfl) (fs' := [.ref (x + 1), .ref (x + 5), .ref (x + 9), .ref (x + 11), .int a0, .int sl, .int la, .int sp, .int rm, .int ln, .int mA, .int mB, .int lt, .int pr, .int tl, .int tk]) rfl dX4_set_58 ?_
            generalize eM133 : j_up M x (.inr (4, [.ref (x + 1), .ref (x + 5), .ref (x + 9), .ref (x + 11), .int a0, .int sl, .int la, .int sp, .int rm, .int ln, .int mA, .int mB, .int lt, .int pr, .int tl, .int tk])) = M133
            have h135 : M133 x = some (.inr (4, [.ref (x + 1), .ref (x + 5), .ref (x + 9), .ref (x + 11), .int a0, .int sl, .int la, .int sp, .int rm, .int ln, .int mA, .int mB, .int lt, .int pr, .int tl, .int tk])) := by rw [← eM133]; exact j_up_self _ _ _
            have hp136 : EvAt M133 (x + 1) A := hA.frame (fun q h1 h2 => by rw [← eM133]; exact j_up_ne _ _ (by omega))
            have hp137 : EvAt M133 (x + 5) B := hB.frame (fun q h1 h2 => by rw [← eM133]; exact j_up_ne _ _ (by omega))
            have hp138 : LnAt M133 (x + 11) qu := hQ.frame (fun q h1 h2 => by rw [← eM133]; exact j_up_ne _ _ (by omega))
            have hp139 : GrAt M133 (x + 9) cs := hG.frame (fun q hq => by rw [← eM133]; exact j_up_ne _ _ (by rcases hq with rfl | rfl | ⟨z, hz, rfl⟩ <;> first | omega | (have := hnb z hz; omega)))
            refine j_aload_n X 0 dX4_set_61 rfl rfl ?_
            refine j_iload_n X 2 dX4_set_62 rfl rfl ?_
            refine j_put X h135 rfl iwX4_set_X4 tyX4 tyX4_ok nmX4 5 (by decide) lkX4_set_37 rfl rfl rfl (Nat.le_of_ble_eq_true rfl) (fs' := [.ref (x + 1), .ref (x + 5), .ref (x + 9), .ref (x + 11), .int a0, .int a1, .int la, .int sp, .int rm, .int ln, .int mA, .int mB, .int lt, .int pr, .int tl, .int tk]) rfl dX4_set_63 ?_
            generalize eM140 : j_up M133 x (.inr (4, [.ref (x + 1), .ref (x + 5), .ref (x + 9), .ref (x + 11), .int a0, .int a1, .int la, .int sp, .int rm, .int ln, .int mA, .int mB, .int lt, .int pr, .int tl, .int tk])) = M140
            have h142 : M140 x = some (.inr (4, [.ref (x + 1), .ref (x + 5), .ref (x + 9), .ref (x + 11), .int a0, .int a1, .int la, .int sp, .int rm, .int ln, .int mA, .int mB, .int lt, .int pr, .int tl, .int tk])) := by rw [← eM140]; exact j_up_self _ _ _
            have hp143 : EvAt M140 (x + 1) A := hp136.frame (fun q h1 h2 => by rw [← eM140]; exact j_up_ne _ _ (by omega))
            have hp144 : EvAt M140 (x + 5) B := hp137.frame (fun q h1 h2 => by rw [← eM140]; exact j_up_ne _ _ (by omega))
            have hp145 : LnAt M140 (x + 11) qu := hp138.frame (fun q h1 h2 => by rw [← eM140]; exact j_up_ne _ _ (by omega))
            have hp146 : GrAt M140 (x + 9) cs := hp139.frame (fun q hq => by rw [← eM140]; exact j_up_ne _ _ (by rcases hq with rfl | rfl | ⟨z, hz, rfl⟩ <;> first | omega | (have := hnb z hz; omega)))
            refine j_aload_n X 0 dX4_set_66 rfl rfl ?_
            refine j_iload_n X 3 dX4_set_67 rfl rfl ?_
            refine j_put X h142 rfl iwX4_set_X4 tyX4 tyX4_ok nmX4 6 (by decide) lkX4_set_40 rfl rfl rfl (Nat.le_of_ble_eq_true rfl) (fs' := [.ref (x + 1), .ref (x + 5), .ref (x + 9), .ref (x + 11), .int a0, .int a1, .int a2, .int sp, .int rm, .int ln, .int mA, .int mB, .int lt, .int pr, .int tl, .int tk]) rfl dX4_set_68 ?_
            generalize eM147 : j_up M140 x (.inr (4, [.ref (x + 1), .ref (x + 5), .ref (x + 9), .ref (x + 11), .int a0, .int a1, .int a2, .int sp, .int rm, .int ln, .int mA, .int mB, .int lt, .int pr, .int tl, .int tk])) = M147
            have h149 : M147 x = some (.inr (4, [.ref (x + 1), .ref (x + 5), .ref (x + 9), .ref (x + 11), .int a0, .int a1, .int a2, .int sp, .int rm, .int ln, .int mA, .int mB, .int lt, .int pr, .int tl, .int tk])) := by rw [← eM147]; exact j_up_self _ _ _
            have hp150 : EvAt M147 (x + 1) A := hp143.frame (fun q h1 h2 => by rw [← eM147]; exact j_up_ne _ _ (by omega))
            have hp151 : EvAt M147 (x + 5) B := hp144.frame (fun q h1 h2 => by rw [← eM147]; exact j_up_ne _ _ (by omega))
            have hp152 : LnAt M147 (x + 11) qu := hp145.frame (fun q h1 h2 => by rw [← eM147]; exact j_up_ne _ _ (by omega))
            have hp153 : GrAt M147 (x + 9) cs := hp146.frame (fun q hq => by rw [← eM147]; exact j_up_ne _ _ (by rcases hq with rfl | rfl | ⟨z, hz, rfl⟩ <;> first | omega | (have := hnb z hz; omega)))
            refine j_aload_n X 0 dX4_set_71 rfl rfl ?_
            refine j_iload X dX4_set_72 rfl ?_
            refine j_put X h149 rfl iwX4_set_X4 tyX4 tyX4_ok nmX4 7 (by decide) lkX4_set_43 rfl rfl rfl (Nat.le_of_ble_eq_true rfl) (fs' := [.ref (x + 1), .ref (x + 5), .ref (x + 9), .ref (x + 11), .int a0, .int a1, .int a2, .int a3, .int rm, .int ln, .int mA, .int mB, .int lt, .int pr, .int tl, .int tk]) rfl dX4_set_74 ?_
            generalize eM154 : j_up M147 x (.inr (4, [.ref (x + 1), .ref (x + 5), .ref (x + 9), .ref (x + 11), .int a0, .int a1, .int a2, .int a3, .int rm, .int ln, .int mA, .int mB, .int lt, .int pr, .int tl, .int tk])) = M154
            have h156 : M154 x = some (.inr (4, [.ref (x + 1), .ref (x + 5), .ref (x + 9), .ref (x + 11), .int a0, .int a1, .int a2, .int a3, .int rm, .int ln, .int mA, .int mB, .int lt, .int pr, .int tl, .int tk])) := by rw [← eM154]; exact j_up_self _ _ _
            have hp157 : EvAt M154 (x + 1) A := hp150.frame (fun q h1 h2 => by rw [← eM154]; exact j_up_ne _ _ (by omega))
            have hp158 : EvAt M154 (x + 5) B := hp151.frame (fun q h1 h2 => by rw [← eM154]; exact j_up_ne _ _ (by omega))
            have hp159 : LnAt M154 (x + 11) qu := hp152.frame (fun q h1 h2 => by rw [← eM154]; exact j_up_ne _ _ (by omega))
            have hp160 : GrAt M154 (x + 9) cs := hp153.frame (fun q hq => by rw [← eM154]; exact j_up_ne _ _ (by rcases hq with rfl | rfl | ⟨z, hz, rfl⟩ <;> first | omega | (have := hnb z hz; omega)))
            refine j_aload_n X 0 dX4_set_77 rfl rfl ?_
            refine j_iload X dX4_set_78 rfl ?_
            refine j_put X h156 rfl iwX4_set_X4 tyX4 tyX4_ok nmX4 8 (by decide) lkX4_set_46 rfl rfl rfl (Nat.le_of_ble_eq_true rfl) (fs' := [.ref (x + 1), .ref (x + 5), .ref (x + 9), .ref (x + 11), .int a0, .int a1, .int a2, .int a3, .int a4, .int ln, .int mA, .int mB, .int lt, .int pr, .int tl, .int tk]) rfl dX4_set_80 ?_
            generalize eM161 : j_up M154 x (.inr (4, [.ref (x + 1), .ref (x + 5), .ref (x + 9), .ref (x + 11), .int a0, .int a1, .int a2, .int a3, .int a4, .int ln, .int mA, .int mB, .int lt, .int pr, .int tl, .int tk])) = M161
            have h163 : M161 x = some (.inr (4, [.ref (x + 1), .ref (x + 5), .ref (x + 9), .ref (x + 11), .int a0, .int a1, .int a2, .int a3, .int a4, .int ln, .int mA, .int mB, .int lt, .int pr, .int tl, .int tk])) := by rw [← eM161]; exact j_up_self _ _ _
            have hp164 : EvAt M161 (x + 1) A := hp157.frame (fun q h1 h2 => by rw [← eM161]; exact j_up_ne _ _ (by omega))
            have hp165 : EvAt M161 (x + 5) B := hp158.frame (fun q h1 h2 => by rw [← eM161]; exact j_up_ne _ _ (by omega))
            have hp166 : LnAt M161 (x + 11) qu := hp159.frame (fun q h1 h2 => by rw [← eM161]; exact j_up_ne _ _ (by omega))
            have hp167 : GrAt M161 (x + 9) cs := hp160.frame (fun q hq => by rw [← eM161]; exact j_up_ne _ _ (by rcases hq with rfl | rfl | ⟨z, hz, rfl⟩ <;> first | omega | (have := hnb z hz; omega)))
            refine j_aload_n X 0 dX4_set_83 rfl rfl ?_
            refine j_iload X dX4_set_84 rfl ?_
            refine j_put X h163 rfl iwX4_set_X4 tyX4 tyX4_ok nmX4 9 (by decide) lkX4_set_49 rfl rfl rfl (Nat.le_of_ble_eq_true rfl) (fs' := [.ref (x + 1), .ref (x + 5), .ref (x + 9), .ref (x + 11), .int a0, .int a1, .int a2, .int a3, .int a4, .int a5, .int mA, .int mB, .int lt, .int pr, .int tl, .int tk]) rfl dX4_set_86 ?_
            generalize eM168 : j_up M161 x (.inr (4, [.ref (x + 1), .ref (x + 5), .ref (x + 9), .ref (x + 11), .int a0, .int a1, .int a2, .int a3, .int a4, .int a5, .int mA, .int mB, .int lt, .int pr, .int tl, .int tk])) = M168
            have h170 : M168 x = some (.inr (4, [.ref (x + 1), .ref (x + 5), .ref (x + 9), .ref (x + 11), .int a0, .int a1, .int a2, .int a3, .int a4, .int a5, .int mA, .int mB, .int lt, .int pr, .int tl, .int tk])) := by rw [← eM168]; exact j_up_self _ _ _
            have hp171 : EvAt M168 (x + 1) A := hp164.frame (fun q h1 h2 => by rw [← eM168]; exact j_up_ne _ _ (by omega))
            have hp172 : EvAt M168 (x + 5) B := hp165.frame (fun q h1 h2 => by rw [← eM168]; exact j_up_ne _ _ (by omega))
            have hp173 : LnAt M168 (x + 11) qu := hp166.frame (fun q h1 h2 => by rw [← eM168]; exact j_up_ne _ _ (by omega))
            have hp174 : GrAt M168 (x + 9) cs := hp167.frame (fun q hq => by rw [← eM168]; exact j_up_ne _ _ (by rcases hq with rfl | rfl | ⟨z, hz, rfl⟩ <;> first | omega | (have := hnb z hz; omega)))
            refine j_aload_n X 0 dX4_set_89 rfl rfl ?_
            refine j_callV X nwSQ_ok (As := []) (rest := []) h170 rfl rfl (c_X4_startAgain l D hI b0 (nb := nb) ⟨h170, hp171, hp172, hp174, hp173, hnd, hnb, hxn⟩) rfl gX4_set_X4_startAgain ⟨rfl, ddX4_startAgain⟩ ⟨Nat.le_of_ble_eq_true rfl, Nat.le_of_ble_eq_true rfl⟩ (Nat.le_of_ble_eq_true rfl) rfl dX4_set_90 ⟨(by show 0 + 0 ≤ 0; omega), (by show 0 + 0 ≤ 0; omega)⟩ (fun r175 M176 n177 hr178 => ?_)
            obtain ⟨rfl, rfl, hs2, hf2⟩ := hr178
            refine j_st (st := []) rfl ?_
            refine j_iconst X dX4_set_93 (v := 0) (by decide) ?_
            exact j_iret X hlk hr (by omega) (by omega) dX4_set_94 ⟨rfl, rfl, hs2, fun q hq => by rw [hf2 _ (by omega), ← eM168, j_up_ne _ _ (by omega), ← eM161, j_up_ne _ _ (by omega), ← eM154, j_up_ne _ _ (by omega), ← eM147, j_up_ne _ _ (by omega), ← eM140, j_up_ne _ _ (by omega), ← eM133, j_up_ne _ _ (by omega)]⟩
          · skip
            exact absurd hok.2.2.2.2 (zo_eq.mp c132)
set_option maxHeartbeats 800000 in
set_option maxRecDepth 100000 in
theorem c_X4_admB (l : Launch) (D : va_G) {ty : jT} {cA : ClassId} (hI : ty[0]? = some (cA, .int)) (b0 : Nat) {M : jM} {n x nb : Nat} {w sl la sp rm ln mA mB lt pr tl tk : Int32} {A B : List Ev} {cs : List Nd} {qu : List Rec} (h : SQ M x nb w sl la sp rm ln mA mB lt pr tl tk A B cs qu) {oo : Nat} {O : List Ev} (hO : EvAt M oo O) (t k : Int32) (hT : ¬ (-1000000000 ≤ t ∧ t ≤ 1000000000)) : Ct l D ty vwCl nwSQ b0 yX4_admit wsX4_admit 3 70 0 0 [.ref x, .ref oo, .int t, .int k] M n (j_rd (.int (-2)) M n) := by
  obtain ⟨hx, hA, hB, hG, hQ, hnd, hnb, hxn⟩ := id h
  have hx : M x = some (.inr (4, [.ref (x + 1), .ref (x + 5), .ref (x + 9), .ref (x + 11), .int w, .int sl, .int la, .int sp, .int rm, .int ln, .int mA, .int mB, .int lt, .int pr, .int tl, .int tk])) := hx
  refine j_start (cc := cX4_admit) (maxL := 5) (ret := (some .int)) (by decide) rfl [some (.ref x), some (.ref oo), some (.int t), some (.int k), none] (Nat.le_of_ble_eq_true rfl) rfl ?_
  intro p e s m below meth c X hlk hr hnm
  refine j_iload_n X 2 dX4_admit_0 rfl rfl ?_
  refine j_callS X nwSQ_ok (As := [.int t]) (rest := []) rfl (c_X4_isTime l D hI b0 t) rfl gX4_admit_X4_isTime ddX4_isTime ⟨Nat.le_of_ble_eq_true rfl, Nat.le_of_ble_eq_true rfl⟩ (Nat.le_of_ble_eq_true rfl) rfl dX4_admit_1 ⟨(by show 0 + 0 ≤ 0; omega), (by show 0 + 0 ≤ 0; omega)⟩ (fun r179 M180 n181 hr182 => ?_)
  obtain ⟨rfl, rfl, rfl⟩ := hr182
  refine j_st (st := [.int (if -1000000000 ≤ t ∧ t ≤ 1000000000 then 1 else 0)]) rfl ?_
  refine j_if_ne X 10 dX4_admit_4 (by decide) (fun c183 => ?_) (fun c183 => ?_)
  · skip
    exact absurd (zo_ne.mp c183) hT
  · skip
    refine j_bipush X dX4_admit_7 (v := (-2)) (by decide) ?_
    exact j_iret X hlk hr (by omega) (by omega) dX4_admit_9 ⟨rfl, rfl, rfl⟩
set_option maxHeartbeats 800000 in
set_option maxRecDepth 100000 in
theorem c_X4_admL (l : Launch) (D : va_G) {ty : jT} {cA : ClassId} (hI : ty[0]? = some (cA, .int)) (b0 : Nat) {M : jM} {n x nb : Nat} {w sl la sp rm ln mA mB lt pr tl tk : Int32} {A B : List Ev} {cs : List Nd} {qu : List Rec} (h : SQ M x nb w sl la sp rm ln mA mB lt pr tl tk A B cs qu) {oo : Nat} {O : List Ev} (hO : EvAt M oo O) (t k : Int32) (hT : (-1000000000 ≤ t ∧ t ≤ 1000000000)) (hL : ¬ mn mA mB - la ≤ t) : Ct l D ty vwCl nwSQ b0 yX4_admit wsX4_admit 3 70 0 0 [.ref x, .ref oo, .int t, .int k] M n (fun r M' n' => r = some (.int (-4)) ∧ n = n' ∧ M' x = some (sqO x w sl la sp rm ln mA mB (lt + 1) pr tl tk) ∧ ∀ q, q ≠ x → M' q = M q) := by
  obtain ⟨hx, hA, hB, hG, hQ, hnd, hnb, hxn⟩ := id h
  have hx : M x = some (.inr (4, [.ref (x + 1), .ref (x + 5), .ref (x + 9), .ref (x + 11), .int w, .int sl, .int la, .int sp, .int rm, .int ln, .int mA, .int mB, .int lt, .int pr, .int tl, .int tk])) := hx
  refine j_start (cc := cX4_admit) (maxL := 5) (ret := (some .int)) (by decide) rfl [some (.ref x), some (.ref oo), some (.int t), some (.int k), none] (Nat.le_of_ble_eq_true rfl) rfl ?_
  intro p e s m below meth c X hlk hr hnm
  refine j_iload_n X 2 dX4_admit_0 rfl rfl ?_
  refine j_callS X nwSQ_ok (As := [.int t]) (rest := []) rfl (c_X4_isTime l D hI b0 t) rfl gX4_admit_X4_isTime ddX4_isTime ⟨Nat.le_of_ble_eq_true rfl, Nat.le_of_ble_eq_true rfl⟩ (Nat.le_of_ble_eq_true rfl) rfl dX4_admit_1 ⟨(by show 0 + 0 ≤ 0; omega), (by show 0 + 0 ≤ 0; omega)⟩ (fun r184 M185 n186 hr187 => ?_)
  obtain ⟨rfl, rfl, rfl⟩ := hr187
  refine j_st (st := [.int (if -1000000000 ≤ t ∧ t ≤ 1000000000 then 1 else 0)]) rfl ?_
  refine j_if_ne X 10 dX4_admit_4 (by decide) (fun c188 => ?_) (fun c188 => ?_)
  · skip
    refine j_iload_n X 2 dX4_admit_10 rfl rfl ?_
    refine j_aload_n X 0 dX4_admit_11 rfl rfl ?_
    refine j_callV X nwSQ_ok (As := []) (rest := [.int t]) hx rfl rfl (c_X4_mark l D hI b0 hx) rfl gX4_admit_X4_mark ⟨rfl, ddX4_mark⟩ ⟨Nat.le_of_ble_eq_true rfl, Nat.le_of_ble_eq_true rfl⟩ (Nat.le_of_ble_eq_true rfl) rfl dX4_admit_12 ⟨(by show 0 + 0 ≤ 0; omega), (by show 0 + 0 ≤ 0; omega)⟩ (fun r189 M190 n191 hr192 => ?_)
    obtain ⟨rfl, rfl, rfl⟩ := hr192
    refine j_st (st := [.int (mn mA mB), .int t]) rfl ?_
    refine j_aload_n X 0 dX4_admit_15 rfl rfl ?_
    refine j_get X hx rfl iwX4_admit_X4 6 (by decide) lkX4_admit_40 rfl dX4_admit_16 ?_
    refine j_isub X dX4_admit_19 ?_
    refine j_icmp_ge X 36 dX4_admit_20 (by decide) (fun c193 => ?_) (fun c193 => ?_)
    · skip
      exact absurd c193 hL
    · skip
      refine j_aload_n X 0 dX4_admit_23 rfl rfl ?_
      refine j_dup X dX4_admit_24 rfl ?_
      refine j_get X hx rfl iwX4_admit_X4 12 (by decide) lkX4_admit_144 rfl dX4_admit_25 ?_
      refine j_iconst X dX4_admit_28 (v := 1) (by decide) ?_
      refine j_iadd X dX4_admit_29 ?_
      refine j_put X hx rfl iwX4_admit_X4 tyX4 tyX4_ok nmX4 12 (by decide) lkX4_admit_144 rfl rfl rfl (Nat.le_of_ble_eq_true rfl) (fs' := [.ref (x + 1), .ref (x + 5), .ref (x + 9), .ref (x + 11), .int w, .int sl, .int la, .int sp, .int rm, .int ln, .int mA, .int mB, .int (lt + 1), .int pr, .int tl, .int tk]) rfl dX4_admit_30 ?_
      generalize eM194 : j_up M x (.inr (4, [.ref (x + 1), .ref (x + 5), .ref (x + 9), .ref (x + 11), .int w, .int sl, .int la, .int sp, .int rm, .int ln, .int mA, .int mB, .int (lt + 1), .int pr, .int tl, .int tk])) = M194
      have h196 : M194 x = some (.inr (4, [.ref (x + 1), .ref (x + 5), .ref (x + 9), .ref (x + 11), .int w, .int sl, .int la, .int sp, .int rm, .int ln, .int mA, .int mB, .int (lt + 1), .int pr, .int tl, .int tk])) := by rw [← eM194]; exact j_up_self _ _ _
      refine j_bipush X dX4_admit_33 (v := (-4)) (by decide) ?_
      exact j_iret X hlk hr (by omega) (by omega) dX4_admit_35 ⟨rfl, rfl, h196, fun q hq => by rw [← eM194, j_up_ne _ _ (hq)]⟩
  · skip
    exact absurd hT (zo_eq.mp c188)
set_option maxHeartbeats 800000 in
set_option maxRecDepth 100000 in
theorem c_X4_admF (l : Launch) (D : va_G) {ty : jT} {cA : ClassId} (hI : ty[0]? = some (cA, .int)) (b0 : Nat) {M : jM} {n x nb : Nat} {w sl la sp rm ln mA mB lt pr tl tk : Int32} {A B : List Ev} {cs : List Nd} {qu : List Rec} (h : SQ M x nb w sl la sp rm ln mA mB lt pr tl tk A B cs qu) {oo : Nat} {O : List Ev} (hO : EvAt M oo O) (t k : Int32) (hT : (-1000000000 ≤ t ∧ t ≤ 1000000000)) (hL : mn mA mB - la ≤ t) (hR : ¬ nI (A.length + B.length) < rm) : Ct l D ty vwCl nwSQ b0 yX4_admit wsX4_admit 3 70 0 0 [.ref x, .ref oo, .int t, .int k] M n (j_rd (.int (-3)) M n) := by
  obtain ⟨hx, hA, hB, hG, hQ, hnd, hnb, hxn⟩ := id h
  have hx : M x = some (.inr (4, [.ref (x + 1), .ref (x + 5), .ref (x + 9), .ref (x + 11), .int w, .int sl, .int la, .int sp, .int rm, .int ln, .int mA, .int mB, .int lt, .int pr, .int tl, .int tk])) := hx
  refine j_start (cc := cX4_admit) (maxL := 5) (ret := (some .int)) (by decide) rfl [some (.ref x), some (.ref oo), some (.int t), some (.int k), none] (Nat.le_of_ble_eq_true rfl) rfl ?_
  intro p e s m below meth c X hlk hr hnm
  refine j_iload_n X 2 dX4_admit_0 rfl rfl ?_
  refine j_callS X nwSQ_ok (As := [.int t]) (rest := []) rfl (c_X4_isTime l D hI b0 t) rfl gX4_admit_X4_isTime ddX4_isTime ⟨Nat.le_of_ble_eq_true rfl, Nat.le_of_ble_eq_true rfl⟩ (Nat.le_of_ble_eq_true rfl) rfl dX4_admit_1 ⟨(by show 0 + 0 ≤ 0; omega), (by show 0 + 0 ≤ 0; omega)⟩ (fun r197 M198 n199 hr200 => ?_)
  obtain ⟨rfl, rfl, rfl⟩ := hr200
  refine j_st (st := [.int (if -1000000000 ≤ t ∧ t ≤ 1000000000 then 1 else 0)]) rfl ?_
  refine j_if_ne X 10 dX4_admit_4 (by decide) (fun c201 => ?_) (fun c201 => ?_)
  · skip
    refine j_iload_n X 2 dX4_admit_10 rfl rfl ?_
    refine j_aload_n X 0 dX4_admit_11 rfl rfl ?_
    refine j_callV X nwSQ_ok (As := []) (rest := [.int t]) hx rfl rfl (c_X4_mark l D hI b0 hx) rfl gX4_admit_X4_mark ⟨rfl, ddX4_mark⟩ ⟨Nat.le_of_ble_eq_true rfl, Nat.le_of_ble_eq_true rfl⟩ (Nat.le_of_ble_eq_true rfl) rfl dX4_admit_12 ⟨(by show 0 + 0 ≤ 0; omega), (by show 0 + 0 ≤ 0; omega)⟩ (fun r202 M203 n204 hr205 => ?_)
    obtain ⟨rfl, rfl, rfl⟩ := hr205
    refine j_st (st := [.int (mn mA mB), .int t]) rfl ?_
    refine j_aload_n X 0 dX4_admit_15 rfl rfl ?_
    refine j_get X hx rfl iwX4_admit_X4 6 (by decide) lkX4_admit_40 rfl dX4_admit_16 ?_
    refine j_isub X dX4_admit_19 ?_
    refine j_icmp_ge X 36 dX4_admit_20 (by decide) (fun c206 => ?_) (fun c206 => ?_)
    · skip
      refine j_aload_n X 0 dX4_admit_36 rfl rfl ?_
      refine j_get X hx rfl iwX4_admit_X4 0 (by decide) lkX4_admit_10 rfl dX4_admit_37 ?_
      refine j_callV X nwSQ_ok (As := []) (rest := []) hA.cell rfl rfl (c_X0_size l D hI b0 hA) rfl gX4_admit_X0_size ⟨rfl, ddX0_size⟩ ⟨Nat.le_of_ble_eq_true rfl, Nat.le_of_ble_eq_true rfl⟩ (Nat.le_of_ble_eq_true rfl) rfl dX4_admit_40 ⟨(by show 0 + 0 ≤ 0; omega), (by show 0 + 0 ≤ 0; omega)⟩ (fun r207 M208 n209 hr210 => ?_)
      obtain ⟨rfl, rfl, rfl⟩ := hr210
      refine j_st (st := [.int (nI A.length)]) rfl ?_
      refine j_aload_n X 0 dX4_admit_43 rfl rfl ?_
      refine j_get X hx rfl iwX4_admit_X4 1 (by decide) lkX4_admit_16 rfl dX4_admit_44 ?_
      refine j_callV X nwSQ_ok (As := []) (rest := [.int (nI A.length)]) hB.cell rfl rfl (c_X0_size l D hI b0 hB) rfl gX4_admit_X0_size ⟨rfl, ddX0_size⟩ ⟨Nat.le_of_ble_eq_true rfl, Nat.le_of_ble_eq_true rfl⟩ (Nat.le_of_ble_eq_true rfl) rfl dX4_admit_47 ⟨(by show 0 + 0 ≤ 0; omega), (by show 0 + 0 ≤ 0; omega)⟩ (fun r211 M212 n213 hr214 => ?_)
      obtain ⟨rfl, rfl, rfl⟩ := hr214
      refine j_st (st := [.int (nI B.length), .int (nI A.length)]) rfl ?_
      refine j_iadd X dX4_admit_50 ?_
      refine j_st (st := [.int (nI (A.length + B.length))]) (by rw [show (nI A.length) + (nI B.length) = nI (A.length + B.length) from nI_add _ _]) ?_
      refine j_aload_n X 0 dX4_admit_51 rfl rfl ?_
      refine j_get X hx rfl iwX4_admit_X4 8 (by decide) lkX4_admit_46 rfl dX4_admit_52 ?_
      refine j_icmp_lt X 61 dX4_admit_55 (by decide) (fun c215 => ?_) (fun c215 => ?_)
      · skip
        exact absurd c215 hR
      · skip
        refine j_bipush X dX4_admit_58 (v := (-3)) (by decide) ?_
        exact j_iret X hlk hr (by omega) (by omega) dX4_admit_60 ⟨rfl, rfl, rfl⟩
    · skip
      exact absurd hL c206
  · skip
    exact absurd hT (zo_eq.mp c201)
set_option maxHeartbeats 800000 in
set_option maxRecDepth 100000 in
theorem c_X4_admQ (l : Launch) (D : va_G) {ty : jT} {cA : ClassId} (hI : ty[0]? = some (cA, .int)) (b0 : Nat) {M : jM} {n x nb : Nat} {w sl la sp rm ln mA mB lt pr tl tk : Int32} {A B : List Ev} {cs : List Nd} {qu : List Rec} (h : SQ M x nb w sl la sp rm ln mA mB lt pr tl tk A B cs qu) {oo : Nat} {O : List Ev} (hO : EvAt M oo O) (t k : Int32) (hT : (-1000000000 ≤ t ∧ t ≤ 1000000000)) (hL : mn mA mB - la ≤ t) (hR : nI (A.length + B.length) < rm) (hN : ¬ nI (qu.length + O.countP (nr t k sp)) ≤ ln) : Ct l D ty vwCl nwSQ b0 yX4_admit wsX4_admit 3 70 0 0 [.ref x, .ref oo, .int t, .int k] M n (j_rd (.int (-3)) M n) := by
  obtain ⟨hx, hA, hB, hG, hQ, hnd, hnb, hxn⟩ := id h
  have hx : M x = some (.inr (4, [.ref (x + 1), .ref (x + 5), .ref (x + 9), .ref (x + 11), .int w, .int sl, .int la, .int sp, .int rm, .int ln, .int mA, .int mB, .int lt, .int pr, .int tl, .int tk])) := hx
  refine j_start (cc := cX4_admit) (maxL := 5) (ret := (some .int)) (by decide) rfl [some (.ref x), some (.ref oo), some (.int t), some (.int k), none] (Nat.le_of_ble_eq_true rfl) rfl ?_
  intro p e s m below meth c X hlk hr hnm
  refine j_iload_n X 2 dX4_admit_0 rfl rfl ?_
  refine j_callS X nwSQ_ok (As := [.int t]) (rest := []) rfl (c_X4_isTime l D hI b0 t) rfl gX4_admit_X4_isTime ddX4_isTime ⟨Nat.le_of_ble_eq_true rfl, Nat.le_of_ble_eq_true rfl⟩ (Nat.le_of_ble_eq_true rfl) rfl dX4_admit_1 ⟨(by show 0 + 0 ≤ 0; omega), (by show 0 + 0 ≤ 0; omega)⟩ (fun r216 M217 n218 hr219 => ?_)
  obtain ⟨rfl, rfl, rfl⟩ := hr219
  refine j_st (st := [.int (if -1000000000 ≤ t ∧ t ≤ 1000000000 then 1 else 0)]) rfl ?_
  refine j_if_ne X 10 dX4_admit_4 (by decide) (fun c220 => ?_) (fun c220 => ?_)
  · skip
    refine j_iload_n X 2 dX4_admit_10 rfl rfl ?_
    refine j_aload_n X 0 dX4_admit_11 rfl rfl ?_
    refine j_callV X nwSQ_ok (As := []) (rest := [.int t]) hx rfl rfl (c_X4_mark l D hI b0 hx) rfl gX4_admit_X4_mark ⟨rfl, ddX4_mark⟩ ⟨Nat.le_of_ble_eq_true rfl, Nat.le_of_ble_eq_true rfl⟩ (Nat.le_of_ble_eq_true rfl) rfl dX4_admit_12 ⟨(by show 0 + 0 ≤ 0; omega), (by show 0 + 0 ≤ 0; omega)⟩ (fun r221 M222 n223 hr224 => ?_)
    obtain ⟨rfl, rfl, rfl⟩ := hr224
    refine j_st (st := [.int (mn mA mB), .int t]) rfl ?_
    refine j_aload_n X 0 dX4_admit_15 rfl rfl ?_
    refine j_get X hx rfl iwX4_admit_X4 6 (by decide) lkX4_admit_40 rfl dX4_admit_16 ?_
    refine j_isub X dX4_admit_19 ?_
    refine j_icmp_ge X 36 dX4_admit_20 (by decide) (fun c225 => ?_) (fun c225 => ?_)
    · skip
      refine j_aload_n X 0 dX4_admit_36 rfl rfl ?_
      refine j_get X hx rfl iwX4_admit_X4 0 (by decide) lkX4_admit_10 rfl dX4_admit_37 ?_
      refine j_callV X nwSQ_ok (As := []) (rest := []) hA.cell rfl rfl (c_X0_size l D hI b0 hA) rfl gX4_admit_X0_size ⟨rfl, ddX0_size⟩ ⟨Nat.le_of_ble_eq_true rfl, Nat.le_of_ble_eq_true rfl⟩ (Nat.le_of_ble_eq_true rfl) rfl dX4_admit_40 ⟨(by show 0 + 0 ≤ 0; omega), (by show 0 + 0 ≤ 0; omega)⟩ (fun r226 M227 n228 hr229 => ?_)
      obtain ⟨rfl, rfl, rfl⟩ := hr229
      refine j_st (st := [.int (nI A.length)]) rfl ?_
      refine j_aload_n X 0 dX4_admit_43 rfl rfl ?_
      refine j_get X hx rfl iwX4_admit_X4 1 (by decide) lkX4_admit_16 rfl dX4_admit_44 ?_
      refine j_callV X nwSQ_ok (As := []) (rest := [.int (nI A.length)]) hB.cell rfl rfl (c_X0_size l D hI b0 hB) rfl gX4_admit_X0_size ⟨rfl, ddX0_size⟩ ⟨Nat.le_of_ble_eq_true rfl, Nat.le_of_ble_eq_true rfl⟩ (Nat.le_of_ble_eq_true rfl) rfl dX4_admit_47 ⟨(by show 0 + 0 ≤ 0; omega), (by show 0 + 0 ≤ 0; omega)⟩ (fun r230 M231 n232 hr233 => ?_)
      obtain ⟨rfl, rfl, rfl⟩ := hr233
      refine j_st (st := [.int (nI B.length), .int (nI A.length)]) rfl ?_
      refine j_iadd X dX4_admit_50 ?_
      refine j_st (st := [.int (nI (A.length + B.length))]) (by rw [show (nI A.length) + (nI B.length) = nI (A.length + B.length) from nI_add _ _]) ?_
      refine j_aload_n X 0 dX4_admit_51 rfl rfl ?_
      refine j_get X hx rfl iwX4_admit_X4 8 (by decide) lkX4_admit_46 rfl dX4_admit_52 ?_
      refine j_icmp_lt X 61 dX4_admit_55 (by decide) (fun c234 => ?_) (fun c234 => ?_)
      · skip
        refine j_aload_n X 1 dX4_admit_61 rfl rfl ?_
        refine j_iload_n X 2 dX4_admit_62 rfl rfl ?_
        refine j_iload_n X 3 dX4_admit_63 rfl rfl ?_
        refine j_aload_n X 0 dX4_admit_64 rfl rfl ?_
        refine j_get X hx rfl iwX4_admit_X4 7 (by decide) lkX4_admit_43 rfl dX4_admit_65 ?_
        refine j_callV X nwSQ_ok (As := [.int t, .int k, .int sp]) (rest := []) hO.cell rfl rfl (c_X0_manyNear l D hI b0 hO t k sp) rfl gX4_admit_X0_manyNear ⟨rfl, ddX0_manyNear⟩ ⟨Nat.le_of_ble_eq_true rfl, Nat.le_of_ble_eq_true rfl⟩ (Nat.le_of_ble_eq_true rfl) rfl dX4_admit_68 ⟨(by show 0 + 0 ≤ 0; omega), (by show 0 + 0 ≤ 0; omega)⟩ (fun r235 M236 n237 hr238 => ?_)
        obtain ⟨rfl, rfl, rfl⟩ := hr238
        refine j_st (st := [.int (nI (O.countP (nr t k sp)))]) rfl ?_
        refine j_istore X dX4_admit_71 (by decide) rfl (L' := [some (.ref x), some (.ref oo), some (.int t), some (.int k), some (.int (nI (O.countP (nr t k sp))))]) rfl ?_
        refine j_aload_n X 0 dX4_admit_73 rfl rfl ?_
        refine j_get X hx rfl iwX4_admit_X4 3 (by decide) lkX4_admit_29 rfl dX4_admit_74 ?_
        obtain ⟨fi, hqc239⟩ := hQ.cell
        refine j_callV X nwSQ_ok (As := []) (rest := []) hqc239 rfl rfl (c_X3_size l D hI b0 hQ) rfl gX4_admit_X3_size ⟨rfl, ddX3_size⟩ ⟨Nat.le_of_ble_eq_true rfl, Nat.le_of_ble_eq_true rfl⟩ (Nat.le_of_ble_eq_true rfl) rfl dX4_admit_77 ⟨(by show 0 + 0 ≤ 0; omega), (by show 0 + 0 ≤ 0; omega)⟩ (fun r240 M241 n242 hr243 => ?_)
        obtain ⟨rfl, rfl, rfl⟩ := hr243
        refine j_st (st := [.int (nI qu.length)]) rfl ?_
        refine j_iload X dX4_admit_80 rfl ?_
        refine j_iadd X dX4_admit_82 ?_
        refine j_st (st := [.int (nI (qu.length + (O.countP (nr t k sp))))]) (by rw [show (nI qu.length) + (nI (O.countP (nr t k sp))) = nI (qu.length + (O.countP (nr t k sp))) from nI_add _ _]) ?_
        refine j_aload_n X 0 dX4_admit_83 rfl rfl ?_
        refine j_get X hx rfl iwX4_admit_X4 9 (by decide) lkX4_admit_49 rfl dX4_admit_84 ?_
        refine j_icmp_le X 95 dX4_admit_87 (by decide) (fun c244 => ?_) (fun c244 => ?_)
        · skip
          exact absurd c244 hN
        · skip
          refine j_bipush X dX4_admit_90 (v := (-3)) (by decide) ?_
          refine j_goto X 97 dX4_admit_92 (by decide) ?_
          exact j_iret X hlk hr (by omega) (by omega) dX4_admit_97 ⟨rfl, rfl, rfl⟩
      · skip
        exact absurd hR c234
    · skip
      exact absurd hL c225
  · skip
    exact absurd hT (zo_eq.mp c220)
set_option maxHeartbeats 800000 in
set_option maxRecDepth 100000 in
theorem c_X4_admP (l : Launch) (D : va_G) {ty : jT} {cA : ClassId} (hI : ty[0]? = some (cA, .int)) (b0 : Nat) {M : jM} {n x nb : Nat} {w sl la sp rm ln mA mB lt pr tl tk : Int32} {A B : List Ev} {cs : List Nd} {qu : List Rec} (h : SQ M x nb w sl la sp rm ln mA mB lt pr tl tk A B cs qu) {oo : Nat} {O : List Ev} (hO : EvAt M oo O) (t k : Int32) (hT : (-1000000000 ≤ t ∧ t ≤ 1000000000)) (hL : mn mA mB - la ≤ t) (hR : nI (A.length + B.length) < rm) (hN : nI (qu.length + O.countP (nr t k sp)) ≤ ln) : Ct l D ty vwCl nwSQ b0 yX4_admit wsX4_admit 3 70 0 0 [.ref x, .ref oo, .int t, .int k] M n (j_rd (.int (nI (O.countP (nr t k sp)))) M n) := by
  obtain ⟨hx, hA, hB, hG, hQ, hnd, hnb, hxn⟩ := id h
  have hx : M x = some (.inr (4, [.ref (x + 1), .ref (x + 5), .ref (x + 9), .ref (x + 11), .int w, .int sl, .int la, .int sp, .int rm, .int ln, .int mA, .int mB, .int lt, .int pr, .int tl, .int tk])) := hx
  refine j_start (cc := cX4_admit) (maxL := 5) (ret := (some .int)) (by decide) rfl [some (.ref x), some (.ref oo), some (.int t), some (.int k), none] (Nat.le_of_ble_eq_true rfl) rfl ?_
  intro p e s m below meth c X hlk hr hnm
  refine j_iload_n X 2 dX4_admit_0 rfl rfl ?_
  refine j_callS X nwSQ_ok (As := [.int t]) (rest := []) rfl (c_X4_isTime l D hI b0 t) rfl gX4_admit_X4_isTime ddX4_isTime ⟨Nat.le_of_ble_eq_true rfl, Nat.le_of_ble_eq_true rfl⟩ (Nat.le_of_ble_eq_true rfl) rfl dX4_admit_1 ⟨(by show 0 + 0 ≤ 0; omega), (by show 0 + 0 ≤ 0; omega)⟩ (fun r245 M246 n247 hr248 => ?_)
  obtain ⟨rfl, rfl, rfl⟩ := hr248
  refine j_st (st := [.int (if -1000000000 ≤ t ∧ t ≤ 1000000000 then 1 else 0)]) rfl ?_
  refine j_if_ne X 10 dX4_admit_4 (by decide) (fun c249 => ?_) (fun c249 => ?_)
  · skip
    refine j_iload_n X 2 dX4_admit_10 rfl rfl ?_
    refine j_aload_n X 0 dX4_admit_11 rfl rfl ?_
    refine j_callV X nwSQ_ok (As := []) (rest := [.int t]) hx rfl rfl (c_X4_mark l D hI b0 hx) rfl gX4_admit_X4_mark ⟨rfl, ddX4_mark⟩ ⟨Nat.le_of_ble_eq_true rfl, Nat.le_of_ble_eq_true rfl⟩ (Nat.le_of_ble_eq_true rfl) rfl dX4_admit_12 ⟨(by show 0 + 0 ≤ 0; omega), (by show 0 + 0 ≤ 0; omega)⟩ (fun r250 M251 n252 hr253 => ?_)
    obtain ⟨rfl, rfl, rfl⟩ := hr253
    refine j_st (st := [.int (mn mA mB), .int t]) rfl ?_
    refine j_aload_n X 0 dX4_admit_15 rfl rfl ?_
    refine j_get X hx rfl iwX4_admit_X4 6 (by decide) lkX4_admit_40 rfl dX4_admit_16 ?_
    refine j_isub X dX4_admit_19 ?_
    refine j_icmp_ge X 36 dX4_admit_20 (by decide) (fun c254 => ?_) (fun c254 => ?_)
    · skip
      refine j_aload_n X 0 dX4_admit_36 rfl rfl ?_
      refine j_get X hx rfl iwX4_admit_X4 0 (by decide) lkX4_admit_10 rfl dX4_admit_37 ?_
      refine j_callV X nwSQ_ok (As := []) (rest := []) hA.cell rfl rfl (c_X0_size l D hI b0 hA) rfl gX4_admit_X0_size ⟨rfl, ddX0_size⟩ ⟨Nat.le_of_ble_eq_true rfl, Nat.le_of_ble_eq_true rfl⟩ (Nat.le_of_ble_eq_true rfl) rfl dX4_admit_40 ⟨(by show 0 + 0 ≤ 0; omega), (by show 0 + 0 ≤ 0; omega)⟩ (fun r255 M256 n257 hr258 => ?_)
      obtain ⟨rfl, rfl, rfl⟩ := hr258
      refine j_st (st := [.int (nI A.length)]) rfl ?_
      refine j_aload_n X 0 dX4_admit_43 rfl rfl ?_
      refine j_get X hx rfl iwX4_admit_X4 1 (by decide) lkX4_admit_16 rfl dX4_admit_44 ?_
      refine j_callV X nwSQ_ok (As := []) (rest := [.int (nI A.length)]) hB.cell rfl rfl (c_X0_size l D hI b0 hB) rfl gX4_admit_X0_size ⟨rfl, ddX0_size⟩ ⟨Nat.le_of_ble_eq_true rfl, Nat.le_of_ble_eq_true rfl⟩ (Nat.le_of_ble_eq_true rfl) rfl dX4_admit_47 ⟨(by show 0 + 0 ≤ 0; omega), (by show 0 + 0 ≤ 0; omega)⟩ (fun r259 M260 n261 hr262 => ?_)
      obtain ⟨rfl, rfl, rfl⟩ := hr262
      refine j_st (st := [.int (nI B.length), .int (nI A.length)]) rfl ?_
      refine j_iadd X dX4_admit_50 ?_
      refine j_st (st := [.int (nI (A.length + B.length))]) (by rw [show (nI A.length) + (nI B.length) = nI (A.length + B.length) from nI_add _ _]) ?_
      refine j_aload_n X 0 dX4_admit_51 rfl rfl ?_
      refine j_get X hx rfl iwX4_admit_X4 8 (by decide) lkX4_admit_46 rfl dX4_admit_52 ?_
      refine j_icmp_lt X 61 dX4_admit_55 (by decide) (fun c263 => ?_) (fun c263 => ?_)
      · skip
        refine j_aload_n X 1 dX4_admit_61 rfl rfl ?_
        refine j_iload_n X 2 dX4_admit_62 rfl rfl ?_
        refine j_iload_n X 3 dX4_admit_63 rfl rfl ?_
        refine j_aload_n X 0 dX4_admit_64 rfl rfl ?_
        refine j_get X hx rfl iwX4_admit_X4 7 (by decide) lkX4_admit_43 rfl dX4_admit_65 ?_
        refine j_callV X nwSQ_ok (As := [.int t, .int k, .int sp]) (rest := []) hO.cell rfl rfl (c_X0_manyNear l D hI b0 hO t k sp) rfl gX4_admit_X0_manyNear ⟨rfl, ddX0_manyNear⟩ ⟨Nat.le_of_ble_eq_true rfl, Nat.le_of_ble_eq_true rfl⟩ (Nat.le_of_ble_eq_true rfl) rfl dX4_admit_68 ⟨(by show 0 + 0 ≤ 0; omega), (by show 0 + 0 ≤ 0; omega)⟩ (fun r264 M265 n266 hr267 => ?_)
        obtain ⟨rfl, rfl, rfl⟩ := hr267
        refine j_st (st := [.int (nI (O.countP (nr t k sp)))]) rfl ?_
        refine j_istore X dX4_admit_71 (by decide) rfl (L' := [some (.ref x), some (.ref oo), some (.int t), some (.int k), some (.int (nI (O.countP (nr t k sp))))]) rfl ?_
        refine j_aload_n X 0 dX4_admit_73 rfl rfl ?_
        refine j_get X hx rfl iwX4_admit_X4 3 (by decide) lkX4_admit_29 rfl dX4_admit_74 ?_
        obtain ⟨fi, hqc268⟩ := hQ.cell
        refine j_callV X nwSQ_ok (As := []) (rest := []) hqc268 rfl rfl (c_X3_size l D hI b0 hQ) rfl gX4_admit_X3_size ⟨rfl, ddX3_size⟩ ⟨Nat.le_of_ble_eq_true rfl, Nat.le_of_ble_eq_true rfl⟩ (Nat.le_of_ble_eq_true rfl) rfl dX4_admit_77 ⟨(by show 0 + 0 ≤ 0; omega), (by show 0 + 0 ≤ 0; omega)⟩ (fun r269 M270 n271 hr272 => ?_)
        obtain ⟨rfl, rfl, rfl⟩ := hr272
        refine j_st (st := [.int (nI qu.length)]) rfl ?_
        refine j_iload X dX4_admit_80 rfl ?_
        refine j_iadd X dX4_admit_82 ?_
        refine j_st (st := [.int (nI (qu.length + (O.countP (nr t k sp))))]) (by rw [show (nI qu.length) + (nI (O.countP (nr t k sp))) = nI (qu.length + (O.countP (nr t k sp))) from nI_add _ _]) ?_
        refine j_aload_n X 0 dX4_admit_83 rfl rfl ?_
        refine j_get X hx rfl iwX4_admit_X4 9 (by decide) lkX4_admit_49 rfl dX4_admit_84 ?_
        refine j_icmp_le X 95 dX4_admit_87 (by decide) (fun c273 => ?_) (fun c273 => ?_)
        · skip
          refine j_iload X dX4_admit_95 rfl ?_
          exact j_iret X hlk hr (by omega) (by omega) dX4_admit_97 ⟨rfl, rfl, rfl⟩
        · skip
          exact absurd hN c273
      · skip
        exact absurd hR c263
    · skip
      exact absurd hL c254
  · skip
    exact absurd hT (zo_eq.mp c249)
