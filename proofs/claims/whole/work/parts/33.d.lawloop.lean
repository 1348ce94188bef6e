set_option maxHeartbeats 800000 in
set_option maxRecDepth 100000 in
theorem law_loop {p : Program} {l : Launch} {e : Env} {s : State} {m : MethodId} {below : List Frame} {meth : Method} {c : Code} {D : va_G} {ty : jT} {cA : ClassId} {x b N : Nat} {xs : Nat → Int32} (hI : ty[0]? = some (cA, .int)) (X : j_X p s m #[Value.ref b] c code 4 RL wsL_law D ty vwCl nwSQ) (hXs : va_X b N xs s s.heap) (hbl : b < s.heap.size) (hb0 : x = s.heap.size) (hr : meth.sig.returnType = ret) (hlk : meth.locks = false) (hN : N ≤ 3584) : ∀ (f j : Nat) (M : jM) (n cells slots : Nat), N < 7 * j + f → 7 * j ≤ N → Inv x M n j → cells ≤ 20 + 16 * j → slots ≤ 7259 + 96 * j → J p l e room_1 s m #[Value.ref b] below meth c D ty vwCl x (lw_Z below #[Value.ref b] s) 4 M n cells slots 18 [some (.ref b), some (.ref x), some (.ref (x + 13)), some (.int (nI (7 * j)))] [] := by
  intro f
  induction f with
  | zero => intro j M n cells slots hf hj; omega
  | succ f ih =>
    intro j M n cells slots hf hj hInv hc hs
    refine j_iload_n X 3 dL_law_18 rfl rfl ?_
    refine j_aload_n X 0 dL_law_19 rfl rfl ?_
    refine j_slen X hXs hbl hb0 dL_law_20 ?_
    refine j_bipush X dL_law_21 (v := 7) (by decide) ?_
    refine j_isub X dL_law_23 ?_
    refine j_icmp_gt X 517 dL_law_24 (by decide) (fun c118 => ?_) (fun c118 => ?_)
    · skip
      refine j_iconst X dL_law_517 (v := 1) (by decide) ?_
      exact j_lend X hb0 hr hlk (by omega) (by omega) dL_law_518
    · skip
      have h7 := law_go hN hj c118
      refine j_aload_n X 0 dL_law_27 rfl rfl ?_
      refine j_iload_n X 3 dL_law_28 rfl rfl ?_
      refine j_sld X hXs hbl hb0 (vp_in_nI (show 7 * j < N by omega) (by omega)) (v := xs (7 * j)) (congrArg xs (nI_clamp (show 7 * j < 2 ^ 31 by omega))) dL_law_29 ?_
      refine j_bipush X dL_law_30 (v := 15) (by decide) ?_
      refine j_iand X dL_law_32 ?_
      by_cases c119 : ((xs (7 * j)) &&& 15) = 0
      · refine j_tableIn X 100 dL_law_33 (by rw [c119]; decide) (by rw [c119]; decide) (off := 67) (by rw [c119]; decide) (by decide) ?_
        exact law_set hI X hXs hbl hb0 hr hlk hN h7 hInv hc hs (fun M' n' c' s' h1 h2 h3 => ih (j + 1) M' n' c' s' (by omega) (by omega) h1 h2 h3)
      by_cases c120 : ((xs (7 * j)) &&& 15) = 1
      · refine j_tableIn X 175 dL_law_33 (by rw [c120]; decide) (by rw [c120]; decide) (off := 142) (by rw [c120]; decide) (by decide) ?_
        exact law_eventA hI X hXs hbl hb0 hr hlk hN h7 hInv hc hs (fun M' n' c' s' h1 h2 h3 => ih (j + 1) M' n' c' s' (by omega) (by omega) h1 h2 h3)
      by_cases c121 : ((xs (7 * j)) &&& 15) = 2
      · refine j_tableIn X 218 dL_law_33 (by rw [c121]; decide) (by rw [c121]; decide) (off := 185) (by rw [c121]; decide) (by decide) ?_
        exact law_eventB hI X hXs hbl hb0 hr hlk hN h7 hInv hc hs (fun M' n' c' s' h1 h2 h3 => ih (j + 1) M' n' c' s' (by omega) (by omega) h1 h2 h3)
      by_cases c122 : ((xs (7 * j)) &&& 15) = 3
      · refine j_tableIn X 261 dL_law_33 (by rw [c122]; decide) (by rw [c122]; decide) (off := 228) (by rw [c122]; decide) (by decide) ?_
        exact law_markA hI X hXs hbl hb0 hr hlk hN h7 hInv hc hs (fun M' n' c' s' h1 h2 h3 => ih (j + 1) M' n' c' s' (by omega) (by omega) h1 h2 h3)
      by_cases c123 : ((xs (7 * j)) &&& 15) = 4
      · refine j_tableIn X 284 dL_law_33 (by rw [c123]; decide) (by rw [c123]; decide) (off := 251) (by rw [c123]; decide) (by decide) ?_
        exact law_markB hI X hXs hbl hb0 hr hlk hN h7 hInv hc hs (fun M' n' c' s' h1 h2 h3 => ih (j + 1) M' n' c' s' (by omega) (by omega) h1 h2 h3)
      by_cases c124 : ((xs (7 * j)) &&& 15) = 5
      · refine j_tableIn X 307 dL_law_33 (by rw [c124]; decide) (by rw [c124]; decide) (off := 274) (by rw [c124]; decide) (by decide) ?_
        exact law_mark hI X hXs hbl hb0 hr hlk hN h7 hInv hc hs (fun M' n' c' s' h1 h2 h3 => ih (j + 1) M' n' c' s' (by omega) (by omega) h1 h2 h3)
      by_cases c125 : ((xs (7 * j)) &&& 15) = 6
      · refine j_tableIn X 320 dL_law_33 (by rw [c125]; decide) (by rw [c125]; decide) (off := 287) (by rw [c125]; decide) (by decide) ?_
        exact law_available hI X hXs hbl hb0 hr hlk hN h7 hInv hc hs (fun M' n' c' s' h1 h2 h3 => ih (j + 1) M' n' c' s' (by omega) (by omega) h1 h2 h3)
      by_cases c126 : ((xs (7 * j)) &&& 15) = 7
      · refine j_tableIn X 333 dL_law_33 (by rw [c126]; decide) (by rw [c126]; decide) (off := 300) (by rw [c126]; decide) (by decide) ?_
        exact law_kind hI X hXs hbl hb0 hr hlk hN h7 hInv hc hs (fun M' n' c' s' h1 h2 h3 => ih (j + 1) M' n' c' s' (by omega) (by omega) h1 h2 h3)
      by_cases c127 : ((xs (7 * j)) &&& 15) = 8
      · refine j_tableIn X 356 dL_law_33 (by rw [c127]; decide) (by rw [c127]; decide) (off := 323) (by rw [c127]; decide) (by decide) ?_
        exact law_field hI X hXs hbl hb0 hr hlk hN h7 hInv hc hs (fun M' n' c' s' h1 h2 h3 => ih (j + 1) M' n' c' s' (by omega) (by omega) h1 h2 h3)
      by_cases c128 : ((xs (7 * j)) &&& 15) = 9
      · refine j_tableIn X 389 dL_law_33 (by rw [c128]; decide) (by rw [c128]; decide) (off := 356) (by rw [c128]; decide) (by decide) ?_
        exact law_pop hI X hXs hbl hb0 hr hlk hN h7 hInv hc hs (fun M' n' c' s' h1 h2 h3 => ih (j + 1) M' n' c' s' (by omega) (by omega) h1 h2 h3)
      by_cases c129 : ((xs (7 * j)) &&& 15) = 10
      · refine j_tableIn X 402 dL_law_33 (by rw [c129]; decide) (by rw [c129]; decide) (off := 369) (by rw [c129]; decide) (by decide) ?_
        exact law_look hI X hXs hbl hb0 hr hlk hN h7 hInv hc hs (fun M' n' c' s' h1 h2 h3 => ih (j + 1) M' n' c' s' (by omega) (by omega) h1 h2 h3)
      by_cases c130 : ((xs (7 * j)) &&& 15) = 11
      · refine j_tableIn X 445 dL_law_33 (by rw [c130]; decide) (by rw [c130]; decide) (off := 412) (by rw [c130]; decide) (by decide) ?_
        exact law_event hI X hXs hbl hb0 hr hlk hN h7 hInv hc hs (fun M' n' c' s' h1 h2 h3 => ih (j + 1) M' n' c' s' (by omega) (by omega) h1 h2 h3)
      by_cases c131 : ((xs (7 * j)) &&& 15) = 12
      · refine j_tableIn X 488 dL_law_33 (by rw [c131]; decide) (by rw [c131]; decide) (off := 455) (by rw [c131]; decide) (by decide) ?_
        exact law_count hI X hXs hbl hb0 hr hlk hN h7 hInv hc hs (fun M' n' c' s' h1 h2 h3 => ih (j + 1) M' n' c' s' (by omega) (by omega) h1 h2 h3)
      refine j_tableOut X 511 dL_law_33 (by have q0 := lv_neT (a := 0) c119 (by decide); have q1 := lv_neT (a := 1) c120 (by decide); have q2 := lv_neT (a := 2) c121 (by decide); have q3 := lv_neT (a := 3) c122 (by decide); have q4 := lv_neT (a := 4) c123 (by decide); have q5 := lv_neT (a := 5) c124 (by decide); have q6 := lv_neT (a := 6) c125 (by decide); have q7 := lv_neT (a := 7) c126 (by decide); have q8 := lv_neT (a := 8) c127 (by decide); have q9 := lv_neT (a := 9) c128 (by decide); have q10 := lv_neT (a := 10) c129 (by decide); have q11 := lv_neT (a := 11) c130 (by decide); have q12 := lv_neT (a := 12) c131 (by decide); omega) (by decide) ?_
      exact law_other hI X hXs hbl hb0 hr hlk hN h7 hInv hc hs (fun M' n' c' s' h1 h2 h3 => ih (j + 1) M' n' c' s' (by omega) (by omega) h1 h2 h3)
