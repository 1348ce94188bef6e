set_option maxHeartbeats 800000 in
set_option maxRecDepth 100000 in
theorem law_set {p : Program} {l : Launch} {e : Env} {s : State} {m : MethodId} {below : List Frame} {meth : Method} {c : Code} {D : va_G} {ty : jT} {cA : ClassId} {x b N : Nat} {xs : Nat → Int32} (hI : ty[0]? = some (cA, .int)) (X : j_X p s m #[Value.ref b] c code 4 RL wsL_law D ty vwCl nwSQ) (hXs : va_X b N xs s s.heap) (hbl : b < s.heap.size) (hb0 : x = s.heap.size) (hr : meth.sig.returnType = ret) (hlk : meth.locks = false) (hN : N ≤ 3584) {j n cells slots : Nat} {M : jM} (hj : 7 * j + 7 ≤ N) (hInv : Inv x M n j) (hc : cells ≤ 20 + 16 * j) (hs : slots ≤ 7259 + 96 * j) (hk : ∀ (M' : jM) (n' c' s' : Nat), Inv x M' n' (j + 1) → c' ≤ 20 + 16 * (j + 1) → s' ≤ 7259 + 96 * (j + 1) → J p l e room_1 s m #[Value.ref b] below meth c D ty vwCl x (lw_Z below #[Value.ref b] s) 4 M' n' c' s' 18 [some (.ref b), some (.ref x), some (.ref (x + 13)), some (.int (nI (7 * (j + 1))))] []) : J p l e room_1 s m #[Value.ref b] below meth c D ty vwCl x (lw_Z below #[Value.ref b] s) 4 M n cells slots 100 [some (.ref b), some (.ref x), some (.ref (x + 13)), some (.int (nI (7 * j)))] [] := by
  refine j_aload_n X 1 dL_law_100 rfl rfl ?_
  refine j_aload_n X 0 dL_law_101 rfl rfl ?_
  refine j_iload_n X 3 dL_law_102 rfl rfl ?_
  refine j_iconst X dL_law_103 (v := 1) (by decide) ?_
  refine j_iadd X dL_law_104 ?_
  refine j_st (st := [.int (nI (7 * j + 1)), .ref b, .ref x]) (by rw [show (nI (7 * j)) + 1 = nI (7 * j + 1) from nI_add _ 1]) ?_
  refine j_sld X hXs hbl hb0 (vp_in_nI (show 7 * j + 1 < N by omega) (by omega)) (v := xs (7 * j + 1)) (congrArg xs (nI_clamp (show 7 * j + 1 < 2 ^ 31 by omega))) dL_law_105 ?_
  refine j_aload_n X 0 dL_law_106 rfl rfl ?_
  refine j_iload_n X 3 dL_law_107 rfl rfl ?_
  refine j_iconst X dL_law_108 (v := 2) (by decide) ?_
  refine j_iadd X dL_law_109 ?_
  refine j_st (st := [.int (nI (7 * j + 2)), .ref b, .int (xs (7 * j + 1)), .ref x]) (by rw [show (nI (7 * j)) + 2 = nI (7 * j + 2) from nI_add _ 2]) ?_
  refine j_sld X hXs hbl hb0 (vp_in_nI (show 7 * j + 2 < N by omega) (by omega)) (v := xs (7 * j + 2)) (congrArg xs (nI_clamp (show 7 * j + 2 < 2 ^ 31 by omega))) dL_law_110 ?_
  refine j_aload_n X 0 dL_law_111 rfl rfl ?_
  refine j_iload_n X 3 dL_law_112 rfl rfl ?_
  refine j_iconst X dL_law_113 (v := 3) (by decide) ?_
  refine j_iadd X dL_law_114 ?_
  refine j_st (st := [.int (nI (7 * j + 3)), .ref b, .int (xs (7 * j + 2)), .int (xs (7 * j + 1)), .ref x]) (by rw [show (nI (7 * j)) + 3 = nI (7 * j + 3) from nI_add _ 3]) ?_
  refine j_sld X hXs hbl hb0 (vp_in_nI (show 7 * j + 3 < N by omega) (by omega)) (v := xs (7 * j + 3)) (congrArg xs (nI_clamp (show 7 * j + 3 < 2 ^ 31 by omega))) dL_law_115 ?_
  refine j_aload_n X 0 dL_law_116 rfl rfl ?_
  refine j_iload_n X 3 dL_law_117 rfl rfl ?_
  refine j_iconst X dL_law_118 (v := 4) (by decide) ?_
  refine j_iadd X dL_law_119 ?_
  refine j_st (st := [.int (nI (7 * j + 4)), .ref b, .int (xs (7 * j + 3)), .int (xs (7 * j + 2)), .int (xs (7 * j + 1)), .ref x]) (by rw [show (nI (7 * j)) + 4 = nI (7 * j + 4) from nI_add _ 4]) ?_
  refine j_sld X hXs hbl hb0 (vp_in_nI (show 7 * j + 4 < N by omega) (by omega)) (v := xs (7 * j + 4)) (congrArg xs (nI_clamp (show 7 * j + 4 < 2 ^ 31 by omega))) dL_law_120 ?_
  refine j_aload_n X 0 dL_law_121 rfl rfl ?_
  refine j_iload_n X 3 dL_law_122 rfl rfl ?_
  refine j_iconst X dL_law_123 (v := 5) (by decide) ?_
  refine j_iadd X dL_law_124 ?_
  refine j_st (st := [.int (nI (7 * j + 5)), .ref b, .int (xs (7 * j + 4)), .int (xs (7 * j + 3)), .int (xs (7 * j + 2)), .int (xs (7 * j + 1)), .ref x]) (by rw [show (nI (7 * j)) + 5 = nI (7 * j + 5) from nI_add _ 5]) ?_
  refine j_sld X hXs hbl hb0 (vp_in_nI (show 7 * j + 5 < N by omega) (by omega)) (v := xs (7 * j + 5)) (congrArg xs (nI_clamp (show 7 * j + 5 < 2 ^ 31 by omega))) dL_law_125 ?_
  refine j_aload_n X 0 dL_law_126 rfl rfl ?_
  refine j_iload_n X 3 dL_law_127 rfl rfl ?_
  refine j_bipush X dL_law_128 (v := 6) (by decide) ?_
  refine j_iadd X dL_law_130 ?_
  refine j_st (st := [.int (nI (7 * j + 6)), .ref b, .int (xs (7 * j + 5)), .int (xs (7 * j + 4)), .int (xs (7 * j + 3)), .int (xs (7 * j + 2)), .int (xs (7 * j + 1)), .ref x]) (by rw [show (nI (7 * j)) + 6 = nI (7 * j + 6) from nI_add _ 6]) ?_
  refine j_sld X hXs hbl hb0 (vp_in_nI (show 7 * j + 6 < N by omega) (by omega)) (v := xs (7 * j + 6)) (congrArg xs (nI_clamp (show 7 * j + 6 < 2 ^ 31 by omega))) dL_law_131 ?_
  obtain ⟨⟨fs, hMx⟩, Rt1, hC1, hop⟩ := op_set l D hI x hInv (xs (7 * j + 1)) (xs (7 * j + 2)) (xs (7 * j + 3)) (xs (7 * j + 4)) (xs (7 * j + 5)) (xs (7 * j + 6))
  refine j_callV X nwSQ_ok (As := [.int (xs (7 * j + 1)), .int (xs (7 * j + 2)), .int (xs (7 * j + 3)), .int (xs (7 * j + 4)), .int (xs (7 * j + 5)), .int (xs (7 * j + 6))]) (rest := []) hMx rfl rfl hC1 rfl gL_law_X4_set ⟨rfl, ddX4_set⟩ ⟨Nat.le_of_ble_eq_true rfl, Nat.le_of_ble_eq_true rfl⟩ (Nat.le_of_ble_eq_true rfl) rfl dL_law_132 ⟨(by show cells + 0 ≤ 633548; omega), (by show slots + 0 ≤ 7201603; omega)⟩ (fun r1 M2 n3 hr4 => ?_)
  obtain ⟨Rv, rfl, ⟨fs2, hMm⟩, Rt2, hC2, hop2⟩ := hop _ _ _ hr4
  refine j_st (st := [.int Rv]) rfl ?_
  refine j_aload_n X 2 dL_law_135 rfl rfl ?_
  refine j_aload_n X 0 dL_law_136 rfl rfl ?_
  refine j_iload_n X 3 dL_law_137 rfl rfl ?_
  refine j_iconst X dL_law_138 (v := 1) (by decide) ?_
  refine j_iadd X dL_law_139 ?_
  refine j_st (st := [.int (nI (7 * j + 1)), .ref b, .ref (x + 13), .int Rv]) (by rw [show (nI (7 * j)) + 1 = nI (7 * j + 1) from nI_add _ 1]) ?_
  refine j_sld X hXs hbl hb0 (vp_in_nI (show 7 * j + 1 < N by omega) (by omega)) (v := xs (7 * j + 1)) (congrArg xs (nI_clamp (show 7 * j + 1 < 2 ^ 31 by omega))) dL_law_140 ?_
  refine j_aload_n X 0 dL_law_141 rfl rfl ?_
  refine j_iload_n X 3 dL_law_142 rfl rfl ?_
  refine j_iconst X dL_law_143 (v := 2) (by decide) ?_
  refine j_iadd X dL_law_144 ?_
  refine j_st (st := [.int (nI (7 * j + 2)), .ref b, .int (xs (7 * j + 1)), .ref (x + 13), .int Rv]) (by rw [show (nI (7 * j)) + 2 = nI (7 * j + 2) from nI_add _ 2]) ?_
  refine j_sld X hXs hbl hb0 (vp_in_nI (show 7 * j + 2 < N by omega) (by omega)) (v := xs (7 * j + 2)) (congrArg xs (nI_clamp (show 7 * j + 2 < 2 ^ 31 by omega))) dL_law_145 ?_
  refine j_aload_n X 0 dL_law_146 rfl rfl ?_
  refine j_iload_n X 3 dL_law_147 rfl rfl ?_
  refine j_iconst X dL_law_148 (v := 3) (by decide) ?_
  refine j_iadd X dL_law_149 ?_
  refine j_st (st := [.int (nI (7 * j + 3)), .ref b, .int (xs (7 * j + 2)), .int (xs (7 * j + 1)), .ref (x + 13), .int Rv]) (by rw [show (nI (7 * j)) + 3 = nI (7 * j + 3) from nI_add _ 3]) ?_
  refine j_sld X hXs hbl hb0 (vp_in_nI (show 7 * j + 3 < N by omega) (by omega)) (v := xs (7 * j + 3)) (congrArg xs (nI_clamp (show 7 * j + 3 < 2 ^ 31 by omega))) dL_law_150 ?_
  refine j_aload_n X 0 dL_law_151 rfl rfl ?_
  refine j_iload_n X 3 dL_law_152 rfl rfl ?_
  refine j_iconst X dL_law_153 (v := 4) (by decide) ?_
  refine j_iadd X dL_law_154 ?_
  refine j_st (st := [.int (nI (7 * j + 4)), .ref b, .int (xs (7 * j + 3)), .int (xs (7 * j + 2)), .int (xs (7 * j + 1)), .ref (x + 13), .int Rv]) (by rw [show (nI (7 * j)) + 4 = nI (7 * j + 4) from nI_add _ 4]) ?_
  refine j_sld X hXs hbl hb0 (vp_in_nI (show 7 * j + 4 < N by omega) (by omega)) (v := xs (7 * j + 4)) (congrArg xs (nI_clamp (show 7 * j + 4 < 2 ^ 31 by omega))) dL_law_155 ?_
  refine j_aload_n X 0 dL_law_156 rfl rfl ?_
  refine j_iload_n X 3 dL_law_157 rfl rfl ?_
  refine j_iconst X dL_law_158 (v := 5) (by decide) ?_
  refine j_iadd X dL_law_159 ?_
  refine j_st (st := [.int (nI (7 * j + 5)), .ref b, .int (xs (7 * j + 4)), .int (xs (7 * j + 3)), .int (xs (7 * j + 2)), .int (xs (7 * j + 1)), .ref (x + 13), .int Rv]) (by rw [show (nI (7 * j)) + 5 = nI (7 * j + 5) from nI_add _ 5]) ?_
  refine j_sld X hXs hbl hb0 (vp_in_nI (show 7 * j + 5 < N by omega) (by omega)) (v := xs (7 * j + 5)) (congrArg xs (nI_clamp (show 7 * j + 5 < 2 ^ 31 by omega))) dL_law_160 ?_
  refine j_aload_n X 0 dL_law_161 rfl rfl ?_
  refine j_iload_n X 3 dL_law_162 rfl rfl ?_
  refine j_bipush X dL_law_163 (v := 6) (by decide) ?_
  refine j_iadd X dL_law_165 ?_
  refine j_st (st := [.int (nI (7 * j + 6)), .ref b, .int (xs (7 * j + 5)), .int (xs (7 * j + 4)), .int (xs (7 * j + 3)), .int (xs (7 * j + 2)), .int (xs (7 * j + 1)), .ref (x + 13), .int Rv]) (by rw [show (nI (7 * j)) + 6 = nI (7 * j + 6) from nI_add _ 6]) ?_
  refine j_sld X hXs hbl hb0 (vp_in_nI (show 7 * j + 6 < N by omega) (by omega)) (v := xs (7 * j + 6)) (congrArg xs (nI_clamp (show 7 * j + 6 < 2 ^ 31 by omega))) dL_law_166 ?_
  refine j_callV X nwSQ_ok (As := [.int (xs (7 * j + 1)), .int (xs (7 * j + 2)), .int (xs (7 * j + 3)), .int (xs (7 * j + 4)), .int (xs (7 * j + 5)), .int (xs (7 * j + 6))]) (rest := [.int Rv]) hMm rfl rfl hC2 rfl gL_law_X5_set ⟨rfl, ddX5_set⟩ ⟨Nat.le_of_ble_eq_true rfl, Nat.le_of_ble_eq_true rfl⟩ (Nat.le_of_ble_eq_true rfl) rfl dL_law_167 ⟨(by show cells + 0 ≤ 633548; omega), (by show slots + 0 ≤ 7201603; omega)⟩ (fun r5 M6 n7 hr8 => ?_)
  obtain ⟨rfl, hInv2⟩ := hop2 _ _ _ hr8
  refine j_st (st := [.int Rv, .int Rv]) rfl ?_
  refine j_icmp_eq X 511 dL_law_170 (by decide) (fun c9 => ?_) (fun c9 => ?_)
  · skip
    refine j_iinc X dL_law_511 rfl (v := nI (7 * (j + 1))) (nI_7 j) (by decide) rfl (L' := [some (.ref b), some (.ref x), some (.ref (x + 13)), some (.int (nI (7 * (j + 1))))]) rfl ?_
    refine j_goto X 18 dL_law_514 (by decide) ?_
    exact hk _ _ _ _ hInv2 (by omega) (by omega)
  · skip
    exact absurd rfl c9
set_option maxHeartbeats 800000 in
set_option maxRecDepth 100000 in
theorem law_eventA {p : Program} {l : Launch} {e : Env} {s : State} {m : MethodId} {below : List Frame} {meth : Method} {c : Code} {D : va_G} {ty : jT} {cA : ClassId} {x b N : Nat} {xs : Nat → Int32} (hI : ty[0]? = some (cA, .int)) (X : j_X p s m #[Value.ref b] c code 4 RL wsL_law D ty vwCl nwSQ) (hXs : va_X b N xs s s.heap) (hbl : b < s.heap.size) (hb0 : x = s.heap.size) (hr : meth.sig.returnType = ret) (hlk : meth.locks = false) (hN : N ≤ 3584) {j n cells slots : Nat} {M : jM} (hj : 7 * j + 7 ≤ N) (hInv : Inv x M n j) (hc : cells ≤ 20 + 16 * j) (hs : slots ≤ 7259 + 96 * j) (hk : ∀ (M' : jM) (n' c' s' : Nat), Inv x M' n' (j + 1) → c' ≤ 20 + 16 * (j + 1) → s' ≤ 7259 + 96 * (j + 1) → J p l e room_1 s m #[Value.ref b] below meth c D ty vwCl x (lw_Z below #[Value.ref b] s) 4 M' n' c' s' 18 [some (.ref b), some (.ref x), some (.ref (x + 13)), some (.int (nI (7 * (j + 1))))] []) : J p l e room_1 s m #[Value.ref b] below meth c D ty vwCl x (lw_Z below #[Value.ref b] s) 4 M n cells slots 175 [some (.ref b), some (.ref x), some (.ref (x + 13)), some (.int (nI (7 * j)))] [] := by
  refine j_aload_n X 1 dL_law_175 rfl rfl ?_
  refine j_aload_n X 0 dL_law_176 rfl rfl ?_
  refine j_iload_n X 3 dL_law_177 rfl rfl ?_
  refine j_iconst X dL_law_178 (v := 1) (by decide) ?_
  refine j_iadd X dL_law_179 ?_
  refine j_st (st := [.int (nI (7 * j + 1)), .ref b, .ref x]) (by rw [show (nI (7 * j)) + 1 = nI (7 * j + 1) from nI_add _ 1]) ?_
  refine j_sld X hXs hbl hb0 (vp_in_nI (show 7 * j + 1 < N by omega) (by omega)) (v := xs (7 * j + 1)) (congrArg xs (nI_clamp (show 7 * j + 1 < 2 ^ 31 by omega))) dL_law_180 ?_
  refine j_aload_n X 0 dL_law_181 rfl rfl ?_
  refine j_iload_n X 3 dL_law_182 rfl rfl ?_
  refine j_iconst X dL_law_183 (v := 2) (by decide) ?_
  refine j_iadd X dL_law_184 ?_
  refine j_st (st := [.int (nI (7 * j + 2)), .ref b, .int (xs (7 * j + 1)), .ref x]) (by rw [show (nI (7 * j)) + 2 = nI (7 * j + 2) from nI_add _ 2]) ?_
  refine j_sld X hXs hbl hb0 (vp_in_nI (show 7 * j + 2 < N by omega) (by omega)) (v := xs (7 * j + 2)) (congrArg xs (nI_clamp (show 7 * j + 2 < 2 ^ 31 by omega))) dL_law_185 ?_
  refine j_aload_n X 0 dL_law_186 rfl rfl ?_
  refine j_iload_n X 3 dL_law_187 rfl rfl ?_
  refine j_iconst X dL_law_188 (v := 3) (by decide) ?_
  refine j_iadd X dL_law_189 ?_
  refine j_st (st := [.int (nI (7 * j + 3)), .ref b, .int (xs (7 * j + 2)), .int (xs (7 * j + 1)), .ref x]) (by rw [show (nI (7 * j)) + 3 = nI (7 * j + 3) from nI_add _ 3]) ?_
  refine j_sld X hXs hbl hb0 (vp_in_nI (show 7 * j + 3 < N by omega) (by omega)) (v := xs (7 * j + 3)) (congrArg xs (nI_clamp (show 7 * j + 3 < 2 ^ 31 by omega))) dL_law_190 ?_
  obtain ⟨⟨fs, hMx⟩, Rt1, hC1, hop⟩ := op_eventA l D hI x hInv (xs (7 * j + 1)) (xs (7 * j + 2)) (xs (7 * j + 3))
  refine j_callV X nwSQ_ok (As := [.int (xs (7 * j + 1)), .int (xs (7 * j + 2)), .int (xs (7 * j + 3))]) (rest := []) hMx rfl rfl hC1 rfl gL_law_X4_eventA ⟨rfl, ddX4_eventA⟩ ⟨Nat.le_of_ble_eq_true rfl, Nat.le_of_ble_eq_true rfl⟩ (Nat.le_of_ble_eq_true rfl) rfl dL_law_191 ⟨(by show cells + 16 ≤ 633548; omega), (by show slots + 96 ≤ 7201603; omega)⟩ (fun r10 M11 n12 hr13 => ?_)
  obtain ⟨Rv, rfl, ⟨fs2, hMm⟩, Rt2, hC2, hop2⟩ := hop _ _ _ hr13
  refine j_st (st := [.int Rv]) rfl ?_
  refine j_aload_n X 2 dL_law_194 rfl rfl ?_
  refine j_aload_n X 0 dL_law_195 rfl rfl ?_
  refine j_iload_n X 3 dL_law_196 rfl rfl ?_
  refine j_iconst X dL_law_197 (v := 1) (by decide) ?_
  refine j_iadd X dL_law_198 ?_
  refine j_st (st := [.int (nI (7 * j + 1)), .ref b, .ref (x + 13), .int Rv]) (by rw [show (nI (7 * j)) + 1 = nI (7 * j + 1) from nI_add _ 1]) ?_
  refine j_sld X hXs hbl hb0 (vp_in_nI (show 7 * j + 1 < N by omega) (by omega)) (v := xs (7 * j + 1)) (congrArg xs (nI_clamp (show 7 * j + 1 < 2 ^ 31 by omega))) dL_law_199 ?_
  refine j_aload_n X 0 dL_law_200 rfl rfl ?_
  refine j_iload_n X 3 dL_law_201 rfl rfl ?_
  refine j_iconst X dL_law_202 (v := 2) (by decide) ?_
  refine j_iadd X dL_law_203 ?_
  refine j_st (st := [.int (nI (7 * j + 2)), .ref b, .int (xs (7 * j + 1)), .ref (x + 13), .int Rv]) (by rw [show (nI (7 * j)) + 2 = nI (7 * j + 2) from nI_add _ 2]) ?_
  refine j_sld X hXs hbl hb0 (vp_in_nI (show 7 * j + 2 < N by omega) (by omega)) (v := xs (7 * j + 2)) (congrArg xs (nI_clamp (show 7 * j + 2 < 2 ^ 31 by omega))) dL_law_204 ?_
  refine j_aload_n X 0 dL_law_205 rfl rfl ?_
  refine j_iload_n X 3 dL_law_206 rfl rfl ?_
  refine j_iconst X dL_law_207 (v := 3) (by decide) ?_
  refine j_iadd X dL_law_208 ?_
  refine j_st (st := [.int (nI (7 * j + 3)), .ref b, .int (xs (7 * j + 2)), .int (xs (7 * j + 1)), .ref (x + 13), .int Rv]) (by rw [show (nI (7 * j)) + 3 = nI (7 * j + 3) from nI_add _ 3]) ?_
  refine j_sld X hXs hbl hb0 (vp_in_nI (show 7 * j + 3 < N by omega) (by omega)) (v := xs (7 * j + 3)) (congrArg xs (nI_clamp (show 7 * j + 3 < 2 ^ 31 by omega))) dL_law_209 ?_
  refine j_callV X nwSQ_ok (As := [.int (xs (7 * j + 1)), .int (xs (7 * j + 2)), .int (xs (7 * j + 3))]) (rest := [.int Rv]) hMm rfl rfl hC2 rfl gL_law_X5_eventA ⟨rfl, ddX5_eventA⟩ ⟨Nat.le_of_ble_eq_true rfl, Nat.le_of_ble_eq_true rfl⟩ (Nat.le_of_ble_eq_true rfl) rfl dL_law_210 ⟨(by show cells + 16 + 0 ≤ 633548; omega), (by show slots + 96 + 0 ≤ 7201603; omega)⟩ (fun r14 M15 n16 hr17 => ?_)
  obtain ⟨rfl, hInv2⟩ := hop2 _ _ _ hr17
  refine j_st (st := [.int Rv, .int Rv]) rfl ?_
  refine j_icmp_eq X 511 dL_law_213 (by decide) (fun c18 => ?_) (fun c18 => ?_)
  · skip
    refine j_iinc X dL_law_511 rfl (v := nI (7 * (j + 1))) (nI_7 j) (by decide) rfl (L' := [some (.ref b), some (.ref x), some (.ref (x + 13)), some (.int (nI (7 * (j + 1))))]) rfl ?_
    refine j_goto X 18 dL_law_514 (by decide) ?_
    exact hk _ _ _ _ hInv2 (by omega) (by omega)
  · skip
    exact absurd rfl c18
set_option maxHeartbeats 800000 in
set_option maxRecDepth 100000 in
theorem law_eventB {p : Program} {l : Launch} {e : Env} {s : State} {m : MethodId} {below : List Frame} {meth : Method} {c : Code} {D : va_G} {ty : jT} {cA : ClassId} {x b N : Nat} {xs : Nat → Int32} (hI : ty[0]? = some (cA, .int)) (X : j_X p s m #[Value.ref b] c code 4 RL wsL_law D ty vwCl nwSQ) (hXs : va_X b N xs s s.heap) (hbl : b < s.heap.size) (hb0 : x = s.heap.size) (hr : meth.sig.returnType = ret) (hlk : meth.locks = false) (hN : N ≤ 3584) {j n cells slots : Nat} {M : jM} (hj : 7 * j + 7 ≤ N) (hInv : Inv x M n j) (hc : cells ≤ 20 + 16 * j) (hs : slots ≤ 7259 + 96 * j) (hk : ∀ (M' : jM) (n' c' s' : Nat), Inv x M' n' (j + 1) → c' ≤ 20 + 16 * (j + 1) → s' ≤ 7259 + 96 * (j + 1) → J p l e room_1 s m #[Value.ref b] below meth c D ty vwCl x (lw_Z below #[Value.ref b] s) 4 M' n' c' s' 18 [some (.ref b), some (.ref x), some (.ref (x + 13)), some (.int (nI (7 * (j + 1))))] []) : J p l e room_1 s m #[Value.ref b] below meth c D ty vwCl x (lw_Z below #[Value.ref b] s) 4 M n cells slots 218 [some (.ref b), some (.ref x), some (.ref (x + 13)), some (.int (nI (7 * j)))] [] := by
  refine j_aload_n X 1 dL_law_218 rfl rfl ?_
  refine j_aload_n X 0 dL_law_219 rfl rfl ?_
  refine j_iload_n X 3 dL_law_220 rfl rfl ?_
  refine j_iconst X dL_law_221 (v := 1) (by decide) ?_
  refine j_iadd X dL_law_222 ?_
  refine j_st (st := [.int (nI (7 * j + 1)), .ref b, .ref x]) (by rw [show (nI (7 * j)) + 1 = nI (7 * j + 1) from nI_add _ 1]) ?_
  refine j_sld X hXs hbl hb0 (vp_in_nI (show 7 * j + 1 < N by omega) (by omega)) (v := xs (7 * j + 1)) (congrArg xs (nI_clamp (show 7 * j + 1 < 2 ^ 31 by omega))) dL_law_223 ?_
  refine j_aload_n X 0 dL_law_224 rfl rfl ?_
  refine j_iload_n X 3 dL_law_225 rfl rfl ?_
  refine j_iconst X dL_law_226 (v := 2) (by decide) ?_
  refine j_iadd X dL_law_227 ?_
  refine j_st (st := [.int (nI (7 * j + 2)), .ref b, .int (xs (7 * j + 1)), .ref x]) (by rw [show (nI (7 * j)) + 2 = nI (7 * j + 2) from nI_add _ 2]) ?_
  refine j_sld X hXs hbl hb0 (vp_in_nI (show 7 * j + 2 < N by omega) (by omega)) (v := xs (7 * j + 2)) (congrArg xs (nI_clamp (show 7 * j + 2 < 2 ^ 31 by omega))) dL_law_228 ?_
  refine j_aload_n X 0 dL_law_229 rfl rfl ?_
  refine j_iload_n X 3 dL_law_230 rfl rfl ?_
  refine j_iconst X dL_law_231 (v := 3) (by decide) ?_
  refine j_iadd X dL_law_232 ?_
  refine j_st (st := [.int (nI (7 * j + 3)), .ref b, .int (xs (7 * j + 2)), .int (xs (7 * j + 1)), .ref x]) (by rw [show (nI (7 * j)) + 3 = nI (7 * j + 3) from nI_add _ 3]) ?_
  refine j_sld X hXs hbl hb0 (vp_in_nI (show 7 * j + 3 < N by omega) (by omega)) (v := xs (7 * j + 3)) (congrArg xs (nI_clamp (show 7 * j + 3 < 2 ^ 31 by omega))) dL_law_233 ?_
  obtain ⟨⟨fs, hMx⟩, Rt1, hC1, hop⟩ := op_eventB l D hI x hInv (xs (7 * j + 1)) (xs (7 * j + 2)) (xs (7 * j + 3))
  refine j_callV X nwSQ_ok (As := [.int (xs (7 * j + 1)), .int (xs (7 * j + 2)), .int (xs (7 * j + 3))]) (rest := []) hMx rfl rfl hC1 rfl gL_law_X4_eventB ⟨rfl, ddX4_eventB⟩ ⟨Nat.le_of_ble_eq_true rfl, Nat.le_of_ble_eq_true rfl⟩ (Nat.le_of_ble_eq_true rfl) rfl dL_law_234 ⟨(by show cells + 0 ≤ 633548; omega), (by show slots + 0 ≤ 7201603; omega)⟩ (fun r19 M20 n21 hr22 => ?_)
  obtain ⟨Rv, rfl, ⟨fs2, hMm⟩, Rt2, hC2, hop2⟩ := hop _ _ _ hr22
  refine j_st (st := [.int Rv]) rfl ?_
  refine j_aload_n X 2 dL_law_237 rfl rfl ?_
  refine j_aload_n X 0 dL_law_238 rfl rfl ?_
  refine j_iload_n X 3 dL_law_239 rfl rfl ?_
  refine j_iconst X dL_law_240 (v := 1) (by decide) ?_
  refine j_iadd X dL_law_241 ?_
  refine j_st (st := [.int (nI (7 * j + 1)), .ref b, .ref (x + 13), .int Rv]) (by rw [show (nI (7 * j)) + 1 = nI (7 * j + 1) from nI_add _ 1]) ?_
  refine j_sld X hXs hbl hb0 (vp_in_nI (show 7 * j + 1 < N by omega) (by omega)) (v := xs (7 * j + 1)) (congrArg xs (nI_clamp (show 7 * j + 1 < 2 ^ 31 by omega))) dL_law_242 ?_
  refine j_aload_n X 0 dL_law_243 rfl rfl ?_
  refine j_iload_n X 3 dL_law_244 rfl rfl ?_
  refine j_iconst X dL_law_245 (v := 2) (by decide) ?_
  refine j_iadd X dL_law_246 ?_
  refine j_st (st := [.int (nI (7 * j + 2)), .ref b, .int (xs (7 * j + 1)), .ref (x + 13), .int Rv]) (by rw [show (nI (7 * j)) + 2 = nI (7 * j + 2) from nI_add _ 2]) ?_
  refine j_sld X hXs hbl hb0 (vp_in_nI (show 7 * j + 2 < N by omega) (by omega)) (v := xs (7 * j + 2)) (congrArg xs (nI_clamp (show 7 * j + 2 < 2 ^ 31 by omega))) dL_law_247 ?_
  refine j_aload_n X 0 dL_law_248 rfl rfl ?_
  refine j_iload_n X 3 dL_law_249 rfl rfl ?_
  refine j_iconst X dL_law_250 (v := 3) (by decide) ?_
  refine j_iadd X dL_law_251 ?_
  refine j_st (st := [.int (nI (7 * j + 3)), .ref b, .int (xs (7 * j + 2)), .int (xs (7 * j + 1)), .ref (x + 13), .int Rv]) (by rw [show (nI (7 * j)) + 3 = nI (7 * j + 3) from nI_add _ 3]) ?_
  refine j_sld X hXs hbl hb0 (vp_in_nI (show 7 * j + 3 < N by omega) (by omega)) (v := xs (7 * j + 3)) (congrArg xs (nI_clamp (show 7 * j + 3 < 2 ^ 31 by omega))) dL_law_252 ?_
  refine j_callV X nwSQ_ok (As := [.int (xs (7 * j + 1)), .int (xs (7 * j + 2)), .int (xs (7 * j + 3))]) (rest := [.int Rv]) hMm rfl rfl hC2 rfl gL_law_X5_eventB ⟨rfl, ddX5_eventB⟩ ⟨Nat.le_of_ble_eq_true rfl, Nat.le_of_ble_eq_true rfl⟩ (Nat.le_of_ble_eq_true rfl) rfl dL_law_253 ⟨(by show cells + 0 ≤ 633548; omega), (by show slots + 0 ≤ 7201603; omega)⟩ (fun r23 M24 n25 hr26 => ?_)
  obtain ⟨rfl, hInv2⟩ := hop2 _ _ _ hr26
  refine j_st (st := [.int Rv, .int Rv]) rfl ?_
  refine j_icmp_eq X 511 dL_law_256 (by decide) (fun c27 => ?_) (fun c27 => ?_)
  · skip
    refine j_iinc X dL_law_511 rfl (v := nI (7 * (j + 1))) (nI_7 j) (by decide) rfl (L' := [some (.ref b), some (.ref x), some (.ref (x + 13)), some (.int (nI (7 * (j + 1))))]) rfl ?_
    refine j_goto X 18 dL_law_514 (by decide) ?_
    exact hk _ _ _ _ hInv2 (by omega) (by omega)
  · skip
    exact absurd rfl c27
set_option maxHeartbeats 800000 in
set_option maxRecDepth 100000 in
theorem law_markA {p : Program} {l : Launch} {e : Env} {s : State} {m : MethodId} {below : List Frame} {meth : Method} {c : Code} {D : va_G} {ty : jT} {cA : ClassId} {x b N : Nat} {xs : Nat → Int32} (hI : ty[0]? = some (cA, .int)) (X : j_X p s m #[Value.ref b] c code 4 RL wsL_law D ty vwCl nwSQ) (hXs : va_X b N xs s s.heap) (hbl : b < s.heap.size) (hb0 : x = s.heap.size) (hr : meth.sig.returnType = ret) (hlk : meth.locks = false) (hN : N ≤ 3584) {j n cells slots : Nat} {M : jM} (hj : 7 * j + 7 ≤ N) (hInv : Inv x M n j) (hc : cells ≤ 20 + 16 * j) (hs : slots ≤ 7259 + 96 * j) (hk : ∀ (M' : jM) (n' c' s' : Nat), Inv x M' n' (j + 1) → c' ≤ 20 + 16 * (j + 1) → s' ≤ 7259 + 96 * (j + 1) → J p l e room_1 s m #[Value.ref b] below meth c D ty vwCl x (lw_Z below #[Value.ref b] s) 4 M' n' c' s' 18 [some (.ref b), some (.ref x), some (.ref (x + 13)), some (.int (nI (7 * (j + 1))))] []) : J p l e room_1 s m #[Value.ref b] below meth c D ty vwCl x (lw_Z below #[Value.ref b] s) 4 M n cells slots 261 [some (.ref b), some (.ref x), some (.ref (x + 13)), some (.int (nI (7 * j)))] [] := by
  refine j_aload_n X 1 dL_law_261 rfl rfl ?_
  refine j_aload_n X 0 dL_law_262 rfl rfl ?_
  refine j_iload_n X 3 dL_law_263 rfl rfl ?_
  refine j_iconst X dL_law_264 (v := 1) (by decide) ?_
  refine j_iadd X dL_law_265 ?_
  refine j_st (st := [.int (nI (7 * j + 1)), .ref b, .ref x]) (by rw [show (nI (7 * j)) + 1 = nI (7 * j + 1) from nI_add _ 1]) ?_
  refine j_sld X hXs hbl hb0 (vp_in_nI (show 7 * j + 1 < N by omega) (by omega)) (v := xs (7 * j + 1)) (congrArg xs (nI_clamp (show 7 * j + 1 < 2 ^ 31 by omega))) dL_law_266 ?_
  obtain ⟨⟨fs, hMx⟩, Rt1, hC1, hop⟩ := op_markA l D hI x hInv (by omega) (xs (7 * j + 1))
  refine j_callV X nwSQ_ok (As := [.int (xs (7 * j + 1))]) (rest := []) hMx rfl rfl hC1 rfl gL_law_X4_markA ⟨rfl, ddX4_markA⟩ ⟨Nat.le_of_ble_eq_true rfl, Nat.le_of_ble_eq_true rfl⟩ (Nat.le_of_ble_eq_true rfl) rfl dL_law_267 ⟨(by show cells + 0 ≤ 633548; omega), (by show slots + 0 ≤ 7201603; omega)⟩ (fun r28 M29 n30 hr31 => ?_)
  obtain ⟨Rv, rfl, ⟨fs2, hMm⟩, Rt2, hC2, hop2⟩ := hop _ _ _ hr31
  refine j_st (st := [.int Rv]) rfl ?_
  refine j_aload_n X 2 dL_law_270 rfl rfl ?_
  refine j_aload_n X 0 dL_law_271 rfl rfl ?_
  refine j_iload_n X 3 dL_law_272 rfl rfl ?_
  refine j_iconst X dL_law_273 (v := 1) (by decide) ?_
  refine j_iadd X dL_law_274 ?_
  refine j_st (st := [.int (nI (7 * j + 1)), .ref b, .ref (x + 13), .int Rv]) (by rw [show (nI (7 * j)) + 1 = nI (7 * j + 1) from nI_add _ 1]) ?_
  refine j_sld X hXs hbl hb0 (vp_in_nI (show 7 * j + 1 < N by omega) (by omega)) (v := xs (7 * j + 1)) (congrArg xs (nI_clamp (show 7 * j + 1 < 2 ^ 31 by omega))) dL_law_275 ?_
  refine j_callV X nwSQ_ok (As := [.int (xs (7 * j + 1))]) (rest := [.int Rv]) hMm rfl rfl hC2 rfl gL_law_X5_markA ⟨rfl, ddX5_markA⟩ ⟨Nat.le_of_ble_eq_true rfl, Nat.le_of_ble_eq_true rfl⟩ (Nat.le_of_ble_eq_true rfl) rfl dL_law_276 ⟨(by show cells + 0 ≤ 633548; omega), (by show slots + 0 ≤ 7201603; omega)⟩ (fun r32 M33 n34 hr35 => ?_)
  obtain ⟨rfl, hInv2⟩ := hop2 _ _ _ hr35
  refine j_st (st := [.int Rv, .int Rv]) rfl ?_
  refine j_icmp_eq X 511 dL_law_279 (by decide) (fun c36 => ?_) (fun c36 => ?_)
  · skip
    refine j_iinc X dL_law_511 rfl (v := nI (7 * (j + 1))) (nI_7 j) (by decide) rfl (L' := [some (.ref b), some (.ref x), some (.ref (x + 13)), some (.int (nI (7 * (j + 1))))]) rfl ?_
    refine j_goto X 18 dL_law_514 (by decide) ?_
    exact hk _ _ _ _ hInv2 (by omega) (by omega)
  · skip
    exact absurd rfl c36
set_option maxHeartbeats 800000 in
set_option maxRecDepth 100000 in
theorem law_markB {p : Program} {l : Launch} {e : Env} {s : State} {m : MethodId} {below : List Frame} {meth : Method} {c : Code} {D : va_G} {ty : jT} {cA : ClassId} {x b N : Nat} {xs : Nat → Int32} (hI : ty[0]? = some (cA, .int)) (X : j_X p s m #[Value.ref b] c code 4 RL wsL_law D ty vwCl nwSQ) (hXs : va_X b N xs s s.heap) (hbl : b < s.heap.size) (hb0 : x = s.heap.size) (hr : meth.sig.returnType = ret) (hlk : meth.locks = false) (hN : N ≤ 3584) {j n cells slots : Nat} {M : jM} (hj : 7 * j + 7 ≤ N) (hInv : Inv x M n j) (hc : cells ≤ 20 + 16 * j) (hs : slots ≤ 7259 + 96 * j) (hk : ∀ (M' : jM) (n' c' s' : Nat), Inv x M' n' (j + 1) → c' ≤ 20 + 16 * (j + 1) → s' ≤ 7259 + 96 * (j + 1) → J p l e room_1 s m #[Value.ref b] below meth c D ty vwCl x (lw_Z below #[Value.ref b] s) 4 M' n' c' s' 18 [some (.ref b), some (.ref x), some (.ref (x + 13)), some (.int (nI (7 * (j + 1))))] []) : J p l e room_1 s m #[Value.ref b] below meth c D ty vwCl x (lw_Z below #[Value.ref b] s) 4 M n cells slots 284 [some (.ref b), some (.ref x), some (.ref (x + 13)), some (.int (nI (7 * j)))] [] := by
  refine j_aload_n X 1 dL_law_284 rfl rfl ?_
  refine j_aload_n X 0 dL_law_285 rfl rfl ?_
  refine j_iload_n X 3 dL_law_286 rfl rfl ?_
  refine j_iconst X dL_law_287 (v := 1) (by decide) ?_
  refine j_iadd X dL_law_288 ?_
  refine j_st (st := [.int (nI (7 * j + 1)), .ref b, .ref x]) (by rw [show (nI (7 * j)) + 1 = nI (7 * j + 1) from nI_add _ 1]) ?_
  refine j_sld X hXs hbl hb0 (vp_in_nI (show 7 * j + 1 < N by omega) (by omega)) (v := xs (7 * j + 1)) (congrArg xs (nI_clamp (show 7 * j + 1 < 2 ^ 31 by omega))) dL_law_289 ?_
  obtain ⟨⟨fs, hMx⟩, Rt1, hC1, hop⟩ := op_markB l D hI x hInv (by omega) (xs (7 * j + 1))
  refine j_callV X nwSQ_ok (As := [.int (xs (7 * j + 1))]) (rest := []) hMx rfl rfl hC1 rfl gL_law_X4_markB ⟨rfl, ddX4_markB⟩ ⟨Nat.le_of_ble_eq_true rfl, Nat.le_of_ble_eq_true rfl⟩ (Nat.le_of_ble_eq_true rfl) rfl dL_law_290 ⟨(by show cells + 0 ≤ 633548; omega), (by show slots + 0 ≤ 7201603; omega)⟩ (fun r37 M38 n39 hr40 => ?_)
  obtain ⟨Rv, rfl, ⟨fs2, hMm⟩, Rt2, hC2, hop2⟩ := hop _ _ _ hr40
  refine j_st (st := [.int Rv]) rfl ?_
  refine j_aload_n X 2 dL_law_293 rfl rfl ?_
  refine j_aload_n X 0 dL_law_294 rfl rfl ?_
  refine j_iload_n X 3 dL_law_295 rfl rfl ?_
  refine j_iconst X dL_law_296 (v := 1) (by decide) ?_
  refine j_iadd X dL_law_297 ?_
  refine j_st (st := [.int (nI (7 * j + 1)), .ref b, .ref (x + 13), .int Rv]) (by rw [show (nI (7 * j)) + 1 = nI (7 * j + 1) from nI_add _ 1]) ?_
  refine j_sld X hXs hbl hb0 (vp_in_nI (show 7 * j + 1 < N by omega) (by omega)) (v := xs (7 * j + 1)) (congrArg xs (nI_clamp (show 7 * j + 1 < 2 ^ 31 by omega))) dL_law_298 ?_
  refine j_callV X nwSQ_ok (As := [.int (xs (7 * j + 1))]) (rest := [.int Rv]) hMm rfl rfl hC2 rfl gL_law_X5_markB ⟨rfl, ddX5_markB⟩ ⟨Nat.le_of_ble_eq_true rfl, Nat.le_of_ble_eq_true rfl⟩ (Nat.le_of_ble_eq_true rfl) rfl dL_law_299 ⟨(by show cells + 0 ≤ 633548; omega), (by show slots + 0 ≤ 7201603; omega)⟩ (fun r41 M42 n43 hr44 => ?_)
  obtain ⟨rfl, hInv2⟩ := hop2 _ _ _ hr44
  refine j_st (st := [.int Rv, .int Rv]) rfl ?_
  refine j_icmp_eq X 511 dL_law_302 (by decide) (fun c45 => ?_) (fun c45 => ?_)
  · skip
    refine j_iinc X dL_law_511 rfl (v := nI (7 * (j + 1))) (nI_7 j) (by decide) rfl (L' := [some (.ref b), some (.ref x), some (.ref (x + 13)), some (.int (nI (7 * (j + 1))))]) rfl ?_
    refine j_goto X 18 dL_law_514 (by decide) ?_
    exact hk _ _ _ _ hInv2 (by omega) (by omega)
  · skip
    exact absurd rfl c45
set_option maxHeartbeats 800000 in
set_option maxRecDepth 100000 in
theorem law_mark {p : Program} {l : Launch} {e : Env} {s : State} {m : MethodId} {below : List Frame} {meth : Method} {c : Code} {D : va_G} {ty : jT} {cA : ClassId} {x b N : Nat} {xs : Nat → Int32} (hI : ty[0]? = some (cA, .int)) (X : j_X p s m #[Value.ref b] c code 4 RL wsL_law D ty vwCl nwSQ) (hXs : va_X b N xs s s.heap) (hbl : b < s.heap.size) (hb0 : x = s.heap.size) (hr : meth.sig.returnType = ret) (hlk : meth.locks = false) (hN : N ≤ 3584) {j n cells slots : Nat} {M : jM} (hj : 7 * j + 7 ≤ N) (hInv : Inv x M n j) (hc : cells ≤ 20 + 16 * j) (hs : slots ≤ 7259 + 96 * j) (hk : ∀ (M' : jM) (n' c' s' : Nat), Inv x M' n' (j + 1) → c' ≤ 20 + 16 * (j + 1) → s' ≤ 7259 + 96 * (j + 1) → J p l e room_1 s m #[Value.ref b] below meth c D ty vwCl x (lw_Z below #[Value.ref b] s) 4 M' n' c' s' 18 [some (.ref b), some (.ref x), some (.ref (x + 13)), some (.int (nI (7 * (j + 1))))] []) : J p l e room_1 s m #[Value.ref b] below meth c D ty vwCl x (lw_Z below #[Value.ref b] s) 4 M n cells slots 307 [some (.ref b), some (.ref x), some (.ref (x + 13)), some (.int (nI (7 * j)))] [] := by
  refine j_aload_n X 1 dL_law_307 rfl rfl ?_
  obtain ⟨⟨fs, hMx⟩, Rt1, hC1, hop⟩ := op_mark l D hI x hInv 
  refine j_callV X nwSQ_ok (As := []) (rest := []) hMx rfl rfl hC1 rfl gL_law_X4_mark ⟨rfl, ddX4_mark⟩ ⟨Nat.le_of_ble_eq_true rfl, Nat.le_of_ble_eq_true rfl⟩ (Nat.le_of_ble_eq_true rfl) rfl dL_law_308 ⟨(by show cells + 0 ≤ 633548; omega), (by show slots + 0 ≤ 7201603; omega)⟩ (fun r46 M47 n48 hr49 => ?_)
  obtain ⟨Rv, rfl, ⟨fs2, hMm⟩, Rt2, hC2, hop2⟩ := hop _ _ _ hr49
  refine j_st (st := [.int Rv]) rfl ?_
  refine j_aload_n X 2 dL_law_311 rfl rfl ?_
  refine j_callV X nwSQ_ok (As := []) (rest := [.int Rv]) hMm rfl rfl hC2 rfl gL_law_X5_mark ⟨rfl, ddX5_mark⟩ ⟨Nat.le_of_ble_eq_true rfl, Nat.le_of_ble_eq_true rfl⟩ (Nat.le_of_ble_eq_true rfl) rfl dL_law_312 ⟨(by show cells + 0 ≤ 633548; omega), (by show slots + 0 ≤ 7201603; omega)⟩ (fun r50 M51 n52 hr53 => ?_)
  obtain ⟨rfl, hInv2⟩ := hop2 _ _ _ hr53
  refine j_st (st := [.int Rv, .int Rv]) rfl ?_
  refine j_icmp_eq X 511 dL_law_315 (by decide) (fun c54 => ?_) (fun c54 => ?_)
  · skip
    refine j_iinc X dL_law_511 rfl (v := nI (7 * (j + 1))) (nI_7 j) (by decide) rfl (L' := [some (.ref b), some (.ref x), some (.ref (x + 13)), some (.int (nI (7 * (j + 1))))]) rfl ?_
    refine j_goto X 18 dL_law_514 (by decide) ?_
    exact hk _ _ _ _ hInv2 (by omega) (by omega)
  · skip
    exact absurd rfl c54
set_option maxHeartbeats 800000 in
set_option maxRecDepth 100000 in
theorem law_available {p : Program} {l : Launch} {e : Env} {s : State} {m : MethodId} {below : List Frame} {meth : Method} {c : Code} {D : va_G} {ty : jT} {cA : ClassId} {x b N : Nat} {xs : Nat → Int32} (hI : ty[0]? = some (cA, .int)) (X : j_X p s m #[Value.ref b] c code 4 RL wsL_law D ty vwCl nwSQ) (hXs : va_X b N xs s s.heap) (hbl : b < s.heap.size) (hb0 : x = s.heap.size) (hr : meth.sig.returnType = ret) (hlk : meth.locks = false) (hN : N ≤ 3584) {j n cells slots : Nat} {M : jM} (hj : 7 * j + 7 ≤ N) (hInv : Inv x M n j) (hc : cells ≤ 20 + 16 * j) (hs : slots ≤ 7259 + 96 * j) (hk : ∀ (M' : jM) (n' c' s' : Nat), Inv x M' n' (j + 1) → c' ≤ 20 + 16 * (j + 1) → s' ≤ 7259 + 96 * (j + 1) → J p l e room_1 s m #[Value.ref b] below meth c D ty vwCl x (lw_Z below #[Value.ref b] s) 4 M' n' c' s' 18 [some (.ref b), some (.ref x), some (.ref (x + 13)), some (.int (nI (7 * (j + 1))))] []) : J p l e room_1 s m #[Value.ref b] below meth c D ty vwCl x (lw_Z below #[Value.ref b] s) 4 M n cells slots 320 [some (.ref b), some (.ref x), some (.ref (x + 13)), some (.int (nI (7 * j)))] [] := by
  refine j_aload_n X 1 dL_law_320 rfl rfl ?_
  obtain ⟨⟨fs, hMx⟩, Rt1, hC1, hop⟩ := op_available l D hI x hInv 
  refine j_callV X nwSQ_ok (As := []) (rest := []) hMx rfl rfl hC1 rfl gL_law_X4_available ⟨rfl, ddX4_available⟩ ⟨Nat.le_of_ble_eq_true rfl, Nat.le_of_ble_eq_true rfl⟩ (Nat.le_of_ble_eq_true rfl) rfl dL_law_321 ⟨(by show cells + 0 ≤ 633548; omega), (by show slots + 0 ≤ 7201603; omega)⟩ (fun r55 M56 n57 hr58 => ?_)
  obtain ⟨Rv, rfl, ⟨fs2, hMm⟩, Rt2, hC2, hop2⟩ := hop _ _ _ hr58
  refine j_st (st := [.int Rv]) rfl ?_
  refine j_aload_n X 2 dL_law_324 rfl rfl ?_
  refine j_callV X nwSQ_ok (As := []) (rest := [.int Rv]) hMm rfl rfl hC2 rfl gL_law_X5_available ⟨rfl, ddX5_available⟩ ⟨Nat.le_of_ble_eq_true rfl, Nat.le_of_ble_eq_true rfl⟩ (Nat.le_of_ble_eq_true rfl) rfl dL_law_325 ⟨(by show cells + 0 ≤ 633548; omega), (by show slots + 0 ≤ 7201603; omega)⟩ (fun r59 M60 n61 hr62 => ?_)
  obtain ⟨rfl, hInv2⟩ := hop2 _ _ _ hr62
  refine j_st (st := [.int Rv, .int Rv]) rfl ?_
  refine j_icmp_eq X 511 dL_law_328 (by decide) (fun c63 => ?_) (fun c63 => ?_)
  · skip
    refine j_iinc X dL_law_511 rfl (v := nI (7 * (j + 1))) (nI_7 j) (by decide) rfl (L' := [some (.ref b), some (.ref x), some (.ref (x + 13)), some (.int (nI (7 * (j + 1))))]) rfl ?_
    refine j_goto X 18 dL_law_514 (by decide) ?_
    exact hk _ _ _ _ hInv2 (by omega) (by omega)
  · skip
    exact absurd rfl c63
set_option maxHeartbeats 800000 in
set_option maxRecDepth 100000 in
theorem law_kind {p : Program} {l : Launch} {e : Env} {s : State} {m : MethodId} {below : List Frame} {meth : Method} {c : Code} {D : va_G} {ty : jT} {cA : ClassId} {x b N : Nat} {xs : Nat → Int32} (hI : ty[0]? = some (cA, .int)) (X : j_X p s m #[Value.ref b] c code 4 RL wsL_law D ty vwCl nwSQ) (hXs : va_X b N xs s s.heap) (hbl : b < s.heap.size) (hb0 : x = s.heap.size) (hr : meth.sig.returnType = ret) (hlk : meth.locks = false) (hN : N ≤ 3584) {j n cells slots : Nat} {M : jM} (hj : 7 * j + 7 ≤ N) (hInv : Inv x M n j) (hc : cells ≤ 20 + 16 * j) (hs : slots ≤ 7259 + 96 * j) (hk : ∀ (M' : jM) (n' c' s' : Nat), Inv x M' n' (j + 1) → c' ≤ 20 + 16 * (j + 1) → s' ≤ 7259 + 96 * (j + 1) → J p l e room_1 s m #[Value.ref b] below meth c D ty vwCl x (lw_Z below #[Value.ref b] s) 4 M' n' c' s' 18 [some (.ref b), some (.ref x), some (.ref (x + 13)), some (.int (nI (7 * (j + 1))))] []) : J p l e room_1 s m #[Value.ref b] below meth c D ty vwCl x (lw_Z below #[Value.ref b] s) 4 M n cells slots 333 [some (.ref b), some (.ref x), some (.ref (x + 13)), some (.int (nI (7 * j)))] [] := by
  refine j_aload_n X 1 dL_law_333 rfl rfl ?_
  refine j_aload_n X 0 dL_law_334 rfl rfl ?_
  refine j_iload_n X 3 dL_law_335 rfl rfl ?_
  refine j_iconst X dL_law_336 (v := 1) (by decide) ?_
  refine j_iadd X dL_law_337 ?_
  refine j_st (st := [.int (nI (7 * j + 1)), .ref b, .ref x]) (by rw [show (nI (7 * j)) + 1 = nI (7 * j + 1) from nI_add _ 1]) ?_
  refine j_sld X hXs hbl hb0 (vp_in_nI (show 7 * j + 1 < N by omega) (by omega)) (v := xs (7 * j + 1)) (congrArg xs (nI_clamp (show 7 * j + 1 < 2 ^ 31 by omega))) dL_law_338 ?_
  obtain ⟨⟨fs, hMx⟩, Rt1, hC1, hop⟩ := op_kind l D hI x hInv (xs (7 * j + 1))
  refine j_callV X nwSQ_ok (As := [.int (xs (7 * j + 1))]) (rest := []) hMx rfl rfl hC1 rfl gL_law_X4_kind ⟨rfl, ddX4_kind⟩ ⟨Nat.le_of_ble_eq_true rfl, Nat.le_of_ble_eq_true rfl⟩ (Nat.le_of_ble_eq_true rfl) rfl dL_law_339 ⟨(by show cells + 0 ≤ 633548; omega), (by show slots + 0 ≤ 7201603; omega)⟩ (fun r64 M65 n66 hr67 => ?_)
  obtain ⟨Rv, rfl, ⟨fs2, hMm⟩, Rt2, hC2, hop2⟩ := hop _ _ _ hr67
  refine j_st (st := [.int Rv]) rfl ?_
  refine j_aload_n X 2 dL_law_342 rfl rfl ?_
  refine j_aload_n X 0 dL_law_343 rfl rfl ?_
  refine j_iload_n X 3 dL_law_344 rfl rfl ?_
  refine j_iconst X dL_law_345 (v := 1) (by decide) ?_
  refine j_iadd X dL_law_346 ?_
  refine j_st (st := [.int (nI (7 * j + 1)), .ref b, .ref (x + 13), .int Rv]) (by rw [show (nI (7 * j)) + 1 = nI (7 * j + 1) from nI_add _ 1]) ?_
  refine j_sld X hXs hbl hb0 (vp_in_nI (show 7 * j + 1 < N by omega) (by omega)) (v := xs (7 * j + 1)) (congrArg xs (nI_clamp (show 7 * j + 1 < 2 ^ 31 by omega))) dL_law_347 ?_
  refine j_callV X nwSQ_ok (As := [.int (xs (7 * j + 1))]) (rest := [.int Rv]) hMm rfl rfl hC2 rfl gL_law_X5_kind ⟨rfl, ddX5_kind⟩ ⟨Nat.le_of_ble_eq_true rfl, Nat.le_of_ble_eq_true rfl⟩ (Nat.le_of_ble_eq_true rfl) rfl dL_law_348 ⟨(by show cells + 0 ≤ 633548; omega), (by show slots + 0 ≤ 7201603; omega)⟩ (fun r68 M69 n70 hr71 => ?_)
  obtain ⟨rfl, hInv2⟩ := hop2 _ _ _ hr71
  refine j_st (st := [.int Rv, .int Rv]) rfl ?_
  refine j_icmp_eq X 511 dL_law_351 (by decide) (fun c72 => ?_) (fun c72 => ?_)
  · skip
    refine j_iinc X dL_law_511 rfl (v := nI (7 * (j + 1))) (nI_7 j) (by decide) rfl (L' := [some (.ref b), some (.ref x), some (.ref (x + 13)), some (.int (nI (7 * (j + 1))))]) rfl ?_
    refine j_goto X 18 dL_law_514 (by decide) ?_
    exact hk _ _ _ _ hInv2 (by omega) (by omega)
  · skip
    exact absurd rfl c72
set_option maxHeartbeats 800000 in
set_option maxRecDepth 100000 in
theorem law_field {p : Program} {l : Launch} {e : Env} {s : State} {m : MethodId} {below : List Frame} {meth : Method} {c : Code} {D : va_G} {ty : jT} {cA : ClassId} {x b N : Nat} {xs : Nat → Int32} (hI : ty[0]? = some (cA, .int)) (X : j_X p s m #[Value.ref b] c code 4 RL wsL_law D ty vwCl nwSQ) (hXs : va_X b N xs s s.heap) (hbl : b < s.heap.size) (hb0 : x = s.heap.size) (hr : meth.sig.returnType = ret) (hlk : meth.locks = false) (hN : N ≤ 3584) {j n cells slots : Nat} {M : jM} (hj : 7 * j + 7 ≤ N) (hInv : Inv x M n j) (hc : cells ≤ 20 + 16 * j) (hs : slots ≤ 7259 + 96 * j) (hk : ∀ (M' : jM) (n' c' s' : Nat), Inv x M' n' (j + 1) → c' ≤ 20 + 16 * (j + 1) → s' ≤ 7259 + 96 * (j + 1) → J p l e room_1 s m #[Value.ref b] below meth c D ty vwCl x (lw_Z below #[Value.ref b] s) 4 M' n' c' s' 18 [some (.ref b), some (.ref x), some (.ref (x + 13)), some (.int (nI (7 * (j + 1))))] []) : J p l e room_1 s m #[Value.ref b] below meth c D ty vwCl x (lw_Z below #[Value.ref b] s) 4 M n cells slots 356 [some (.ref b), some (.ref x), some (.ref (x + 13)), some (.int (nI (7 * j)))] [] := by
  refine j_aload_n X 1 dL_law_356 rfl rfl ?_
  refine j_aload_n X 0 dL_law_357 rfl rfl ?_
  refine j_iload_n X 3 dL_law_358 rfl rfl ?_
  refine j_iconst X dL_law_359 (v := 1) (by decide) ?_
  refine j_iadd X dL_law_360 ?_
  refine j_st (st := [.int (nI (7 * j + 1)), .ref b, .ref x]) (by rw [show (nI (7 * j)) + 1 = nI (7 * j + 1) from nI_add _ 1]) ?_
  refine j_sld X hXs hbl hb0 (vp_in_nI (show 7 * j + 1 < N by omega) (by omega)) (v := xs (7 * j + 1)) (congrArg xs (nI_clamp (show 7 * j + 1 < 2 ^ 31 by omega))) dL_law_361 ?_
  refine j_aload_n X 0 dL_law_362 rfl rfl ?_
  refine j_iload_n X 3 dL_law_363 rfl rfl ?_
  refine j_iconst X dL_law_364 (v := 2) (by decide) ?_
  refine j_iadd X dL_law_365 ?_
  refine j_st (st := [.int (nI (7 * j + 2)), .ref b, .int (xs (7 * j + 1)), .ref x]) (by rw [show (nI (7 * j)) + 2 = nI (7 * j + 2) from nI_add _ 2]) ?_
  refine j_sld X hXs hbl hb0 (vp_in_nI (show 7 * j + 2 < N by omega) (by omega)) (v := xs (7 * j + 2)) (congrArg xs (nI_clamp (show 7 * j + 2 < 2 ^ 31 by omega))) dL_law_366 ?_
  obtain ⟨⟨fs, hMx⟩, Rt1, hC1, hop⟩ := op_field l D hI x hInv (xs (7 * j + 1)) (xs (7 * j + 2))
  refine j_callV X nwSQ_ok (As := [.int (xs (7 * j + 1)), .int (xs (7 * j + 2))]) (rest := []) hMx rfl rfl hC1 rfl gL_law_X4_field ⟨rfl, ddX4_field⟩ ⟨Nat.le_of_ble_eq_true rfl, Nat.le_of_ble_eq_true rfl⟩ (Nat.le_of_ble_eq_true rfl) rfl dL_law_367 ⟨(by show cells + 0 ≤ 633548; omega), (by show slots + 0 ≤ 7201603; omega)⟩ (fun r73 M74 n75 hr76 => ?_)
  obtain ⟨Rv, rfl, ⟨fs2, hMm⟩, Rt2, hC2, hop2⟩ := hop _ _ _ hr76
  refine j_st (st := [.int Rv]) rfl ?_
  refine j_aload_n X 2 dL_law_370 rfl rfl ?_
  refine j_aload_n X 0 dL_law_371 rfl rfl ?_
  refine j_iload_n X 3 dL_law_372 rfl rfl ?_
  refine j_iconst X dL_law_373 (v := 1) (by decide) ?_
  refine j_iadd X dL_law_374 ?_
  refine j_st (st := [.int (nI (7 * j + 1)), .ref b, .ref (x + 13), .int Rv]) (by rw [show (nI (7 * j)) + 1 = nI (7 * j + 1) from nI_add _ 1]) ?_
  refine j_sld X hXs hbl hb0 (vp_in_nI (show 7 * j + 1 < N by omega) (by omega)) (v := xs (7 * j + 1)) (congrArg xs (nI_clamp (show 7 * j + 1 < 2 ^ 31 by omega))) dL_law_375 ?_
  refine j_aload_n X 0 dL_law_376 rfl rfl ?_
  refine j_iload_n X 3 dL_law_377 rfl rfl ?_
  refine j_iconst X dL_law_378 (v := 2) (by decide) ?_
  refine j_iadd X dL_law_379 ?_
  refine j_st (st := [.int (nI (7 * j + 2)), .ref b, .int (xs (7 * j + 1)), .ref (x + 13), .int Rv]) (by rw [show (nI (7 * j)) + 2 = nI (7 * j + 2) from nI_add _ 2]) ?_
  refine j_sld X hXs hbl hb0 (vp_in_nI (show 7 * j + 2 < N by omega) (by omega)) (v := xs (7 * j + 2)) (congrArg xs (nI_clamp (show 7 * j + 2 < 2 ^ 31 by omega))) dL_law_380 ?_
  refine j_callV X nwSQ_ok (As := [.int (xs (7 * j + 1)), .int (xs (7 * j + 2))]) (rest := [.int Rv]) hMm rfl rfl hC2 rfl gL_law_X5_field ⟨rfl, ddX5_field⟩ ⟨Nat.le_of_ble_eq_true rfl, Nat.le_of_ble_eq_true rfl⟩ (Nat.le_of_ble_eq_true rfl) rfl dL_law_381 ⟨(by show cells + 0 ≤ 633548; omega), (by show slots + 0 ≤ 7201603; omega)⟩ (fun r77 M78 n79 hr80 => ?_)
  obtain ⟨rfl, hInv2⟩ := hop2 _ _ _ hr80
  refine j_st (st := [.int Rv, .int Rv]) rfl ?_
  refine j_icmp_eq X 511 dL_law_384 (by decide) (fun c81 => ?_) (fun c81 => ?_)
  · skip
    refine j_iinc X dL_law_511 rfl (v := nI (7 * (j + 1))) (nI_7 j) (by decide) rfl (L' := [some (.ref b), some (.ref x), some (.ref (x + 13)), some (.int (nI (7 * (j + 1))))]) rfl ?_
    refine j_goto X 18 dL_law_514 (by decide) ?_
    exact hk _ _ _ _ hInv2 (by omega) (by omega)
  · skip
    exact absurd rfl c81
set_option maxHeartbeats 800000 in
set_option maxRecDepth 100000 in
theorem law_pop {p : Program} {l : Launch} {e : Env} {s : State} {m : MethodId} {below : List Frame} {meth : Method} {c : Code} {D : va_G} {ty : jT} {cA : ClassId} {x b N : Nat} {xs : Nat → Int32} (hI : ty[0]? = some (cA, .int)) (X : j_X p s m #[Value.ref b] c code 4 RL wsL_law D ty vwCl nwSQ) (hXs : va_X b N xs s s.heap) (hbl : b < s.heap.size) (hb0 : x = s.heap.size) (hr : meth.sig.returnType = ret) (hlk : meth.locks = false) (hN : N ≤ 3584) {j n cells slots : Nat} {M : jM} (hj : 7 * j + 7 ≤ N) (hInv : Inv x M n j) (hc : cells ≤ 20 + 16 * j) (hs : slots ≤ 7259 + 96 * j) (hk : ∀ (M' : jM) (n' c' s' : Nat), Inv x M' n' (j + 1) → c' ≤ 20 + 16 * (j + 1) → s' ≤ 7259 + 96 * (j + 1) → J p l e room_1 s m #[Value.ref b] below meth c D ty vwCl x (lw_Z below #[Value.ref b] s) 4 M' n' c' s' 18 [some (.ref b), some (.ref x), some (.ref (x + 13)), some (.int (nI (7 * (j + 1))))] []) : J p l e room_1 s m #[Value.ref b] below meth c D ty vwCl x (lw_Z below #[Value.ref b] s) 4 M n cells slots 389 [some (.ref b), some (.ref x), some (.ref (x + 13)), some (.int (nI (7 * j)))] [] := by
  refine j_aload_n X 1 dL_law_389 rfl rfl ?_
  obtain ⟨⟨fs, hMx⟩, Rt1, hC1, hop⟩ := op_pop l D hI x hInv 
  refine j_callV X nwSQ_ok (As := []) (rest := []) hMx rfl rfl hC1 rfl gL_law_X4_pop ⟨rfl, ddX4_pop⟩ ⟨Nat.le_of_ble_eq_true rfl, Nat.le_of_ble_eq_true rfl⟩ (Nat.le_of_ble_eq_true rfl) rfl dL_law_390 ⟨(by show cells + 0 ≤ 633548; omega), (by show slots + 0 ≤ 7201603; omega)⟩ (fun r82 M83 n84 hr85 => ?_)
  obtain ⟨Rv, rfl, ⟨fs2, hMm⟩, Rt2, hC2, hop2⟩ := hop _ _ _ hr85
  refine j_st (st := [.int Rv]) rfl ?_
  refine j_aload_n X 2 dL_law_393 rfl rfl ?_
  refine j_callV X nwSQ_ok (As := []) (rest := [.int Rv]) hMm rfl rfl hC2 rfl gL_law_X5_pop ⟨rfl, ddX5_pop⟩ ⟨Nat.le_of_ble_eq_true rfl, Nat.le_of_ble_eq_true rfl⟩ (Nat.le_of_ble_eq_true rfl) rfl dL_law_394 ⟨(by show cells + 0 ≤ 633548; omega), (by show slots + 0 ≤ 7201603; omega)⟩ (fun r86 M87 n88 hr89 => ?_)
  obtain ⟨rfl, hInv2⟩ := hop2 _ _ _ hr89
  refine j_st (st := [.int Rv, .int Rv]) rfl ?_
  refine j_icmp_eq X 511 dL_law_397 (by decide) (fun c90 => ?_) (fun c90 => ?_)
  · skip
    refine j_iinc X dL_law_511 rfl (v := nI (7 * (j + 1))) (nI_7 j) (by decide) rfl (L' := [some (.ref b), some (.ref x), some (.ref (x + 13)), some (.int (nI (7 * (j + 1))))]) rfl ?_
    refine j_goto X 18 dL_law_514 (by decide) ?_
    exact hk _ _ _ _ hInv2 (by omega) (by omega)
  · skip
    exact absurd rfl c90
set_option maxHeartbeats 800000 in
set_option maxRecDepth 100000 in
theorem law_look {p : Program} {l : Launch} {e : Env} {s : State} {m : MethodId} {below : List Frame} {meth : Method} {c : Code} {D : va_G} {ty : jT} {cA : ClassId} {x b N : Nat} {xs : Nat → Int32} (hI : ty[0]? = some (cA, .int)) (X : j_X p s m #[Value.ref b] c code 4 RL wsL_law D ty vwCl nwSQ) (hXs : va_X b N xs s s.heap) (hbl : b < s.heap.size) (hb0 : x = s.heap.size) (hr : meth.sig.returnType = ret) (hlk : meth.locks = false) (hN : N ≤ 3584) {j n cells slots : Nat} {M : jM} (hj : 7 * j + 7 ≤ N) (hInv : Inv x M n j) (hc : cells ≤ 20 + 16 * j) (hs : slots ≤ 7259 + 96 * j) (hk : ∀ (M' : jM) (n' c' s' : Nat), Inv x M' n' (j + 1) → c' ≤ 20 + 16 * (j + 1) → s' ≤ 7259 + 96 * (j + 1) → J p l e room_1 s m #[Value.ref b] below meth c D ty vwCl x (lw_Z below #[Value.ref b] s) 4 M' n' c' s' 18 [some (.ref b), some (.ref x), some (.ref (x + 13)), some (.int (nI (7 * (j + 1))))] []) : J p l e room_1 s m #[Value.ref b] below meth c D ty vwCl x (lw_Z below #[Value.ref b] s) 4 M n cells slots 402 [some (.ref b), some (.ref x), some (.ref (x + 13)), some (.int (nI (7 * j)))] [] := by
  refine j_aload_n X 1 dL_law_402 rfl rfl ?_
  refine j_aload_n X 0 dL_law_403 rfl rfl ?_
  refine j_iload_n X 3 dL_law_404 rfl rfl ?_
  refine j_iconst X dL_law_405 (v := 1) (by decide) ?_
  refine j_iadd X dL_law_406 ?_
  refine j_st (st := [.int (nI (7 * j + 1)), .ref b, .ref x]) (by rw [show (nI (7 * j)) + 1 = nI (7 * j + 1) from nI_add _ 1]) ?_
  refine j_sld X hXs hbl hb0 (vp_in_nI (show 7 * j + 1 < N by omega) (by omega)) (v := xs (7 * j + 1)) (congrArg xs (nI_clamp (show 7 * j + 1 < 2 ^ 31 by omega))) dL_law_407 ?_
  refine j_aload_n X 0 dL_law_408 rfl rfl ?_
  refine j_iload_n X 3 dL_law_409 rfl rfl ?_
  refine j_iconst X dL_law_410 (v := 2) (by decide) ?_
  refine j_iadd X dL_law_411 ?_
  refine j_st (st := [.int (nI (7 * j + 2)), .ref b, .int (xs (7 * j + 1)), .ref x]) (by rw [show (nI (7 * j)) + 2 = nI (7 * j + 2) from nI_add _ 2]) ?_
  refine j_sld X hXs hbl hb0 (vp_in_nI (show 7 * j + 2 < N by omega) (by omega)) (v := xs (7 * j + 2)) (congrArg xs (nI_clamp (show 7 * j + 2 < 2 ^ 31 by omega))) dL_law_412 ?_
  refine j_aload_n X 0 dL_law_413 rfl rfl ?_
  refine j_iload_n X 3 dL_law_414 rfl rfl ?_
  refine j_iconst X dL_law_415 (v := 3) (by decide) ?_
  refine j_iadd X dL_law_416 ?_
  refine j_st (st := [.int (nI (7 * j + 3)), .ref b, .int (xs (7 * j + 2)), .int (xs (7 * j + 1)), .ref x]) (by rw [show (nI (7 * j)) + 3 = nI (7 * j + 3) from nI_add _ 3]) ?_
  refine j_sld X hXs hbl hb0 (vp_in_nI (show 7 * j + 3 < N by omega) (by omega)) (v := xs (7 * j + 3)) (congrArg xs (nI_clamp (show 7 * j + 3 < 2 ^ 31 by omega))) dL_law_417 ?_
  obtain ⟨⟨fs, hMx⟩, Rt1, hC1, hop⟩ := op_look l D hI x hInv (xs (7 * j + 1)) (xs (7 * j + 2)) (xs (7 * j + 3))
  refine j_callV X nwSQ_ok (As := [.int (xs (7 * j + 1)), .int (xs (7 * j + 2)), .int (xs (7 * j + 3))]) (rest := []) hMx rfl rfl hC1 rfl gL_law_X4_look ⟨rfl, ddX4_look⟩ ⟨Nat.le_of_ble_eq_true rfl, Nat.le_of_ble_eq_true rfl⟩ (Nat.le_of_ble_eq_true rfl) rfl dL_law_418 ⟨(by show cells + 0 ≤ 633548; omega), (by show slots + 0 ≤ 7201603; omega)⟩ (fun r91 M92 n93 hr94 => ?_)
  obtain ⟨Rv, rfl, ⟨fs2, hMm⟩, Rt2, hC2, hop2⟩ := hop _ _ _ hr94
  refine j_st (st := [.int Rv]) rfl ?_
  refine j_aload_n X 2 dL_law_421 rfl rfl ?_
  refine j_aload_n X 0 dL_law_422 rfl rfl ?_
  refine j_iload_n X 3 dL_law_423 rfl rfl ?_
  refine j_iconst X dL_law_424 (v := 1) (by decide) ?_
  refine j_iadd X dL_law_425 ?_
  refine j_st (st := [.int (nI (7 * j + 1)), .ref b, .ref (x + 13), .int Rv]) (by rw [show (nI (7 * j)) + 1 = nI (7 * j + 1) from nI_add _ 1]) ?_
  refine j_sld X hXs hbl hb0 (vp_in_nI (show 7 * j + 1 < N by omega) (by omega)) (v := xs (7 * j + 1)) (congrArg xs (nI_clamp (show 7 * j + 1 < 2 ^ 31 by omega))) dL_law_426 ?_
  refine j_aload_n X 0 dL_law_427 rfl rfl ?_
  refine j_iload_n X 3 dL_law_428 rfl rfl ?_
  refine j_iconst X dL_law_429 (v := 2) (by decide) ?_
  refine j_iadd X dL_law_430 ?_
  refine j_st (st := [.int (nI (7 * j + 2)), .ref b, .int (xs (7 * j + 1)), .ref (x + 13), .int Rv]) (by rw [show (nI (7 * j)) + 2 = nI (7 * j + 2) from nI_add _ 2]) ?_
  refine j_sld X hXs hbl hb0 (vp_in_nI (show 7 * j + 2 < N by omega) (by omega)) (v := xs (7 * j + 2)) (congrArg xs (nI_clamp (show 7 * j + 2 < 2 ^ 31 by omega))) dL_law_431 ?_
  refine j_aload_n X 0 dL_law_432 rfl rfl ?_
  refine j_iload_n X 3 dL_law_433 rfl rfl ?_
  refine j_iconst X dL_law_434 (v := 3) (by decide) ?_
  refine j_iadd X dL_law_435 ?_
  refine j_st (st := [.int (nI (7 * j + 3)), .ref b, .int (xs (7 * j + 2)), .int (xs (7 * j + 1)), .ref (x + 13), .int Rv]) (by rw [show (nI (7 * j)) + 3 = nI (7 * j + 3) from nI_add _ 3]) ?_
  refine j_sld X hXs hbl hb0 (vp_in_nI (show 7 * j + 3 < N by omega) (by omega)) (v := xs (7 * j + 3)) (congrArg xs (nI_clamp (show 7 * j + 3 < 2 ^ 31 by omega))) dL_law_436 ?_
  refine j_callV X nwSQ_ok (As := [.int (xs (7 * j + 1)), .int (xs (7 * j + 2)), .int (xs (7 * j + 3))]) (rest := [.int Rv]) hMm rfl rfl hC2 rfl gL_law_X5_look ⟨rfl, ddX5_look⟩ ⟨Nat.le_of_ble_eq_true rfl, Nat.le_of_ble_eq_true rfl⟩ (Nat.le_of_ble_eq_true rfl) rfl dL_law_437 ⟨(by show cells + 0 ≤ 633548; omega), (by show slots + 0 ≤ 7201603; omega)⟩ (fun r95 M96 n97 hr98 => ?_)
  obtain ⟨rfl, hInv2⟩ := hop2 _ _ _ hr98
  refine j_st (st := [.int Rv, .int Rv]) rfl ?_
  refine j_icmp_eq X 511 dL_law_440 (by decide) (fun c99 => ?_) (fun c99 => ?_)
  · skip
    refine j_iinc X dL_law_511 rfl (v := nI (7 * (j + 1))) (nI_7 j) (by decide) rfl (L' := [some (.ref b), some (.ref x), some (.ref (x + 13)), some (.int (nI (7 * (j + 1))))]) rfl ?_
    refine j_goto X 18 dL_law_514 (by decide) ?_
    exact hk _ _ _ _ hInv2 (by omega) (by omega)
  · skip
    exact absurd rfl c99
set_option maxHeartbeats 800000 in
set_option maxRecDepth 100000 in
theorem law_event {p : Program} {l : Launch} {e : Env} {s : State} {m : MethodId} {below : List Frame} {meth : Method} {c : Code} {D : va_G} {ty : jT} {cA : ClassId} {x b N : Nat} {xs : Nat → Int32} (hI : ty[0]? = some (cA, .int)) (X : j_X p s m #[Value.ref b] c code 4 RL wsL_law D ty vwCl nwSQ) (hXs : va_X b N xs s s.heap) (hbl : b < s.heap.size) (hb0 : x = s.heap.size) (hr : meth.sig.returnType = ret) (hlk : meth.locks = false) (hN : N ≤ 3584) {j n cells slots : Nat} {M : jM} (hj : 7 * j + 7 ≤ N) (hInv : Inv x M n j) (hc : cells ≤ 20 + 16 * j) (hs : slots ≤ 7259 + 96 * j) (hk : ∀ (M' : jM) (n' c' s' : Nat), Inv x M' n' (j + 1) → c' ≤ 20 + 16 * (j + 1) → s' ≤ 7259 + 96 * (j + 1) → J p l e room_1 s m #[Value.ref b] below meth c D ty vwCl x (lw_Z below #[Value.ref b] s) 4 M' n' c' s' 18 [some (.ref b), some (.ref x), some (.ref (x + 13)), some (.int (nI (7 * (j + 1))))] []) : J p l e room_1 s m #[Value.ref b] below meth c D ty vwCl x (lw_Z below #[Value.ref b] s) 4 M n cells slots 445 [some (.ref b), some (.ref x), some (.ref (x + 13)), some (.int (nI (7 * j)))] [] := by
  refine j_aload_n X 1 dL_law_445 rfl rfl ?_
  refine j_aload_n X 0 dL_law_446 rfl rfl ?_
  refine j_iload_n X 3 dL_law_447 rfl rfl ?_
  refine j_iconst X dL_law_448 (v := 1) (by decide) ?_
  refine j_iadd X dL_law_449 ?_
  refine j_st (st := [.int (nI (7 * j + 1)), .ref b, .ref x]) (by rw [show (nI (7 * j)) + 1 = nI (7 * j + 1) from nI_add _ 1]) ?_
  refine j_sld X hXs hbl hb0 (vp_in_nI (show 7 * j + 1 < N by omega) (by omega)) (v := xs (7 * j + 1)) (congrArg xs (nI_clamp (show 7 * j + 1 < 2 ^ 31 by omega))) dL_law_450 ?_
  refine j_aload_n X 0 dL_law_451 rfl rfl ?_
  refine j_iload_n X 3 dL_law_452 rfl rfl ?_
  refine j_iconst X dL_law_453 (v := 2) (by decide) ?_
  refine j_iadd X dL_law_454 ?_
  refine j_st (st := [.int (nI (7 * j + 2)), .ref b, .int (xs (7 * j + 1)), .ref x]) (by rw [show (nI (7 * j)) + 2 = nI (7 * j + 2) from nI_add _ 2]) ?_
  refine j_sld X hXs hbl hb0 (vp_in_nI (show 7 * j + 2 < N by omega) (by omega)) (v := xs (7 * j + 2)) (congrArg xs (nI_clamp (show 7 * j + 2 < 2 ^ 31 by omega))) dL_law_455 ?_
  refine j_aload_n X 0 dL_law_456 rfl rfl ?_
  refine j_iload_n X 3 dL_law_457 rfl rfl ?_
  refine j_iconst X dL_law_458 (v := 3) (by decide) ?_
  refine j_iadd X dL_law_459 ?_
  refine j_st (st := [.int (nI (7 * j + 3)), .ref b, .int (xs (7 * j + 2)), .int (xs (7 * j + 1)), .ref x]) (by rw [show (nI (7 * j)) + 3 = nI (7 * j + 3) from nI_add _ 3]) ?_
  refine j_sld X hXs hbl hb0 (vp_in_nI (show 7 * j + 3 < N by omega) (by omega)) (v := xs (7 * j + 3)) (congrArg xs (nI_clamp (show 7 * j + 3 < 2 ^ 31 by omega))) dL_law_460 ?_
  obtain ⟨⟨fs, hMx⟩, Rt1, hC1, hop⟩ := op_event l D hI x hInv (xs (7 * j + 1)) (xs (7 * j + 2)) (xs (7 * j + 3))
  refine j_callV X nwSQ_ok (As := [.int (xs (7 * j + 1)), .int (xs (7 * j + 2)), .int (xs (7 * j + 3))]) (rest := []) hMx rfl rfl hC1 rfl gL_law_X4_event ⟨rfl, ddX4_event⟩ ⟨Nat.le_of_ble_eq_true rfl, Nat.le_of_ble_eq_true rfl⟩ (Nat.le_of_ble_eq_true rfl) rfl dL_law_461 ⟨(by show cells + 0 ≤ 633548; omega), (by show slots + 0 ≤ 7201603; omega)⟩ (fun r100 M101 n102 hr103 => ?_)
  obtain ⟨Rv, rfl, ⟨fs2, hMm⟩, Rt2, hC2, hop2⟩ := hop _ _ _ hr103
  refine j_st (st := [.int Rv]) rfl ?_
  refine j_aload_n X 2 dL_law_464 rfl rfl ?_
  refine j_aload_n X 0 dL_law_465 rfl rfl ?_
  refine j_iload_n X 3 dL_law_466 rfl rfl ?_
  refine j_iconst X dL_law_467 (v := 1) (by decide) ?_
  refine j_iadd X dL_law_468 ?_
  refine j_st (st := [.int (nI (7 * j + 1)), .ref b, .ref (x + 13), .int Rv]) (by rw [show (nI (7 * j)) + 1 = nI (7 * j + 1) from nI_add _ 1]) ?_
  refine j_sld X hXs hbl hb0 (vp_in_nI (show 7 * j + 1 < N by omega) (by omega)) (v := xs (7 * j + 1)) (congrArg xs (nI_clamp (show 7 * j + 1 < 2 ^ 31 by omega))) dL_law_469 ?_
  refine j_aload_n X 0 dL_law_470 rfl rfl ?_
  refine j_iload_n X 3 dL_law_471 rfl rfl ?_
  refine j_iconst X dL_law_472 (v := 2) (by decide) ?_
  refine j_iadd X dL_law_473 ?_
  refine j_st (st := [.int (nI (7 * j + 2)), .ref b, .int (xs (7 * j + 1)), .ref (x + 13), .int Rv]) (by rw [show (nI (7 * j)) + 2 = nI (7 * j + 2) from nI_add _ 2]) ?_
  refine j_sld X hXs hbl hb0 (vp_in_nI (show 7 * j + 2 < N by omega) (by omega)) (v := xs (7 * j + 2)) (congrArg xs (nI_clamp (show 7 * j + 2 < 2 ^ 31 by omega))) dL_law_474 ?_
  refine j_aload_n X 0 dL_law_475 rfl rfl ?_
  refine j_iload_n X 3 dL_law_476 rfl rfl ?_
  refine j_iconst X dL_law_477 (v := 3) (by decide) ?_
  refine j_iadd X dL_law_478 ?_
  refine j_st (st := [.int (nI (7 * j + 3)), .ref b, .int (xs (7 * j + 2)), .int (xs (7 * j + 1)), .ref (x + 13), .int Rv]) (by rw [show (nI (7 * j)) + 3 = nI (7 * j + 3) from nI_add _ 3]) ?_
  refine j_sld X hXs hbl hb0 (vp_in_nI (show 7 * j + 3 < N by omega) (by omega)) (v := xs (7 * j + 3)) (congrArg xs (nI_clamp (show 7 * j + 3 < 2 ^ 31 by omega))) dL_law_479 ?_
  refine j_callV X nwSQ_ok (As := [.int (xs (7 * j + 1)), .int (xs (7 * j + 2)), .int (xs (7 * j + 3))]) (rest := [.int Rv]) hMm rfl rfl hC2 rfl gL_law_X5_event_ ⟨rfl, ddX5_event_⟩ ⟨Nat.le_of_ble_eq_true rfl, Nat.le_of_ble_eq_true rfl⟩ (Nat.le_of_ble_eq_true rfl) rfl dL_law_480 ⟨(by show cells + 0 ≤ 633548; omega), (by show slots + 0 ≤ 7201603; omega)⟩ (fun r104 M105 n106 hr107 => ?_)
  obtain ⟨rfl, hInv2⟩ := hop2 _ _ _ hr107
  refine j_st (st := [.int Rv, .int Rv]) rfl ?_
  refine j_icmp_eq X 511 dL_law_483 (by decide) (fun c108 => ?_) (fun c108 => ?_)
  · skip
    refine j_iinc X dL_law_511 rfl (v := nI (7 * (j + 1))) (nI_7 j) (by decide) rfl (L' := [some (.ref b), some (.ref x), some (.ref (x + 13)), some (.int (nI (7 * (j + 1))))]) rfl ?_
    refine j_goto X 18 dL_law_514 (by decide) ?_
    exact hk _ _ _ _ hInv2 (by omega) (by omega)
  · skip
    exact absurd rfl c108
set_option maxHeartbeats 800000 in
set_option maxRecDepth 100000 in
theorem law_count {p : Program} {l : Launch} {e : Env} {s : State} {m : MethodId} {below : List Frame} {meth : Method} {c : Code} {D : va_G} {ty : jT} {cA : ClassId} {x b N : Nat} {xs : Nat → Int32} (hI : ty[0]? = some (cA, .int)) (X : j_X p s m #[Value.ref b] c code 4 RL wsL_law D ty vwCl nwSQ) (hXs : va_X b N xs s s.heap) (hbl : b < s.heap.size) (hb0 : x = s.heap.size) (hr : meth.sig.returnType = ret) (hlk : meth.locks = false) (hN : N ≤ 3584) {j n cells slots : Nat} {M : jM} (hj : 7 * j + 7 ≤ N) (hInv : Inv x M n j) (hc : cells ≤ 20 + 16 * j) (hs : slots ≤ 7259 + 96 * j) (hk : ∀ (M' : jM) (n' c' s' : Nat), Inv x M' n' (j + 1) → c' ≤ 20 + 16 * (j + 1) → s' ≤ 7259 + 96 * (j + 1) → J p l e room_1 s m #[Value.ref b] below meth c D ty vwCl x (lw_Z below #[Value.ref b] s) 4 M' n' c' s' 18 [some (.ref b), some (.ref x), some (.ref (x + 13)), some (.int (nI (7 * (j + 1))))] []) : J p l e room_1 s m #[Value.ref b] below meth c D ty vwCl x (lw_Z below #[Value.ref b] s) 4 M n cells slots 488 [some (.ref b), some (.ref x), some (.ref (x + 13)), some (.int (nI (7 * j)))] [] := by
  refine j_aload_n X 1 dL_law_488 rfl rfl ?_
  refine j_aload_n X 0 dL_law_489 rfl rfl ?_
  refine j_iload_n X 3 dL_law_490 rfl rfl ?_
  refine j_iconst X dL_law_491 (v := 1) (by decide) ?_
  refine j_iadd X dL_law_492 ?_
  refine j_st (st := [.int (nI (7 * j + 1)), .ref b, .ref x]) (by rw [show (nI (7 * j)) + 1 = nI (7 * j + 1) from nI_add _ 1]) ?_
  refine j_sld X hXs hbl hb0 (vp_in_nI (show 7 * j + 1 < N by omega) (by omega)) (v := xs (7 * j + 1)) (congrArg xs (nI_clamp (show 7 * j + 1 < 2 ^ 31 by omega))) dL_law_493 ?_
  obtain ⟨⟨fs, hMx⟩, Rt1, hC1, hop⟩ := op_count l D hI x hInv (xs (7 * j + 1))
  refine j_callV X nwSQ_ok (As := [.int (xs (7 * j + 1))]) (rest := []) hMx rfl rfl hC1 rfl gL_law_X4_count ⟨rfl, ddX4_count⟩ ⟨Nat.le_of_ble_eq_true rfl, Nat.le_of_ble_eq_true rfl⟩ (Nat.le_of_ble_eq_true rfl) rfl dL_law_494 ⟨(by show cells + 0 ≤ 633548; omega), (by show slots + 0 ≤ 7201603; omega)⟩ (fun r109 M110 n111 hr112 => ?_)
  obtain ⟨Rv, rfl, ⟨fs2, hMm⟩, Rt2, hC2, hop2⟩ := hop _ _ _ hr112
  refine j_st (st := [.int Rv]) rfl ?_
  refine j_aload_n X 2 dL_law_497 rfl rfl ?_
  refine j_aload_n X 0 dL_law_498 rfl rfl ?_
  refine j_iload_n X 3 dL_law_499 rfl rfl ?_
  refine j_iconst X dL_law_500 (v := 1) (by decide) ?_
  refine j_iadd X dL_law_501 ?_
  refine j_st (st := [.int (nI (7 * j + 1)), .ref b, .ref (x + 13), .int Rv]) (by rw [show (nI (7 * j)) + 1 = nI (7 * j + 1) from nI_add _ 1]) ?_
  refine j_sld X hXs hbl hb0 (vp_in_nI (show 7 * j + 1 < N by omega) (by omega)) (v := xs (7 * j + 1)) (congrArg xs (nI_clamp (show 7 * j + 1 < 2 ^ 31 by omega))) dL_law_502 ?_
  refine j_callV X nwSQ_ok (As := [.int (xs (7 * j + 1))]) (rest := [.int Rv]) hMm rfl rfl hC2 rfl gL_law_X5_count ⟨rfl, ddX5_count⟩ ⟨Nat.le_of_ble_eq_true rfl, Nat.le_of_ble_eq_true rfl⟩ (Nat.le_of_ble_eq_true rfl) rfl dL_law_503 ⟨(by show cells + 0 ≤ 633548; omega), (by show slots + 0 ≤ 7201603; omega)⟩ (fun r113 M114 n115 hr116 => ?_)
  obtain ⟨rfl, hInv2⟩ := hop2 _ _ _ hr116
  refine j_st (st := [.int Rv, .int Rv]) rfl ?_
  refine j_icmp_eq X 511 dL_law_506 (by decide) (fun c117 => ?_) (fun c117 => ?_)
  · skip
    refine j_iinc X dL_law_511 rfl (v := nI (7 * (j + 1))) (nI_7 j) (by decide) rfl (L' := [some (.ref b), some (.ref x), some (.ref (x + 13)), some (.int (nI (7 * (j + 1))))]) rfl ?_
    refine j_goto X 18 dL_law_514 (by decide) ?_
    exact hk _ _ _ _ hInv2 (by omega) (by omega)
  · skip
    exact absurd rfl c117
set_option maxHeartbeats 800000 in
set_option maxRecDepth 100000 in
theorem law_other {p : Program} {l : Launch} {e : Env} {s : State} {m : MethodId} {below : List Frame} {meth : Method} {c : Code} {D : va_G} {ty : jT} {cA : ClassId} {x b N : Nat} {xs : Nat → Int32} (hI : ty[0]? = some (cA, .int)) (X : j_X p s m #[Value.ref b] c code 4 RL wsL_law D ty vwCl nwSQ) (hXs : va_X b N xs s s.heap) (hbl : b < s.heap.size) (hb0 : x = s.heap.size) (hr : meth.sig.returnType = ret) (hlk : meth.locks = false) (hN : N ≤ 3584) {j n cells slots : Nat} {M : jM} (hj : 7 * j + 7 ≤ N) (hInv : Inv x M n j) (hc : cells ≤ 20 + 16 * j) (hs : slots ≤ 7259 + 96 * j) (hk : ∀ (M' : jM) (n' c' s' : Nat), Inv x M' n' (j + 1) → c' ≤ 20 + 16 * (j + 1) → s' ≤ 7259 + 96 * (j + 1) → J p l e room_1 s m #[Value.ref b] below meth c D ty vwCl x (lw_Z below #[Value.ref b] s) 4 M' n' c' s' 18 [some (.ref b), some (.ref x), some (.ref (x + 13)), some (.int (nI (7 * (j + 1))))] []) : J p l e room_1 s m #[Value.ref b] below meth c D ty vwCl x (lw_Z below #[Value.ref b] s) 4 M n cells slots 511 [some (.ref b), some (.ref x), some (.ref (x + 13)), some (.int (nI (7 * j)))] [] := by
  refine j_iinc X dL_law_511 rfl (v := nI (7 * (j + 1))) (nI_7 j) (by decide) rfl (L' := [some (.ref b), some (.ref x), some (.ref (x + 13)), some (.int (nI (7 * (j + 1))))]) rfl ?_
  refine j_goto X 18 dL_law_514 (by decide) ?_
  exact hk _ _ _ _ (by obtain ⟨w, sl, la, sp, rm, ln, mA, mB, lt, pr, tl, tk, A, B, cs, qu, h1, h2, h3, h4⟩ := hInv; exact ⟨w, sl, la, sp, rm, ln, mA, mB, lt, pr, tl, tk, A, B, cs, qu, h1, h2, h3.more, h4⟩) (by omega) (by omega)
