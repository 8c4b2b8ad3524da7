set_option maxHeartbeats 4000000 in
set_option maxRecDepth 100000 in
/-- the law's case merge -/
theorem law_merge {p : Program} {l : Launch} {e : Env} {s : State} {m : MethodId} {below : List Frame} {meth : Method} {c : Code} {b Ls : Nat} {xs : Nat → Int32} {Q : State → Prop} (hl0 : l.stackTraces = false) (C0 : lw_At p s m meth c b Ls xs) {G : gG} (hK : g_K G s) (hX : g_X s.heap.size s) (hN : g_N s) {i9 v1 v2 v3 v4 : Int32} (hrd : rdS Ls xs i9 v1 v2 v3 v4) {cells slots : Nat} (hcs : cells + 12 ≤ room_1.cells ∧ slots + 100 ≤ room_1.slots) {L : List Nat} {K n : Nat → Nat} {rI : Nat → Nat → Int32} {rJ : Nat → Nat → Int64} {rQ : Nat → Nat → Option Nat} {fI : Nat → Nat → Int32} {fR : Nat → Nat → Option Nat} {ad : Nat → Nat} {α : aT} {bm : Nat → Nat} {β : bT} {oa : Nat} (hI : LI (L, K, n, rI, rJ, rQ, fI, fR) ad α bm β oa) {H : Heap} {locs : List Loc} (hG : gw G s.heap.size s.heap (L, K, n, rI, rJ, rQ, fI, fR) H locs) {ls : Array Slot} (hl : lv_has ls 8 [(0, .ref b), (1, .ref (ad 0)), (2, .ref (bm 0)), (3, .ref oa), (4, .int i9)]) (kk : lwK p l e s m below meth c b G bm oa i9 cells slots Q) : W p l e room_1 s m #[Value.ref b] below meth c H locs cells slots Q (F0 m 924 ls []) := by
  obtain ⟨hx, hb, hr, hml, hown, hts, hXs, hbl, hlocks, hgv⟩ := C0
  have hown : s.vm.findClass RL = some m.cls := hown
  have hts : ∀ w ∈ wsL_law, w.before #[Value.ref b] s = true := fun w h => hts w (wsL_law_in w h)
  have hLo := hI.2.2.2.1
  have hKo := hI.2.2.2.2.1
  have hno := hI.2.2.2.2.2
  have hio := dj_o hI.1 hKo hno
  refine lv_aload_n hx hb dL_law_924 rfl (lv_at hl 1 rfl) ?_
  refine lv_aload_n hx hb dL_law_925 rfl (lv_at hl 0 rfl) ?_
  refine lv_iload hx hb dL_law_926 (lv_at hl 4 rfl) ?_
  refine lv_iconst (v := 1) hx hb dL_law_928 (by decide) ?_
  refine lv_iadd hx hb dL_law_929 ?_
  refine g_sld hx hb hXs hbl hG hrd.1 dL_law_930 ?_
  refine lv_aload_n hx hb dL_law_931 rfl (lv_at hl 0 rfl) ?_
  refine lv_iload hx hb dL_law_932 (lv_at hl 4 rfl) ?_
  refine lv_iconst (v := 2) hx hb dL_law_934 (by decide) ?_
  refine lv_iadd hx hb dL_law_935 ?_
  refine g_sld hx hb hXs hbl hG hrd.2.1 dL_law_936 ?_
  refine lv_aload_n hx hb dL_law_937 rfl (lv_at hl 3 rfl) ?_
  refine g_calli (vx_runSW (As := [.ref (ad 0), .int v1, .int v2, .ref oa]) (rest := []) ⟨hx, hb, hml, hown, hts⟩ (w_merge l G s.heap.size hl0 hI.1 hLo hKo hno hio (i := (v1)) (j := (v2))) (vx_cwSW 4 hts gL_law_L_merge rfl rfl rfl (by decide +kernel) ⟨(Nat.le_of_ble_eq_true rfl), (Nat.le_of_ble_eq_true rfl)⟩) (g_psy hK hX hN hG) rfl rfl hl.1 rfl (lv_room (Nat.le_of_ble_eq_true rfl)) dL_law_938 hcs) hG (fun y1 u H locs hp hG => ?_)
  obtain ⟨⟨L1, K1, n1, i1, j1, q1, f1, R1⟩, ad1, a1⟩ := u
  replace hG : gw G s.heap.size s.heap (L1, K1, n1, i1, j1, q1, f1, R1) H locs := hG
  obtain ⟨cc, rfl, hO, hP⟩ := hp
  replace hO : StpO (L, K, n, rI, rJ, rQ, fI, fR) ad α oa (L1, K1, n1, i1, j1, q1, f1, R1) ad1 a1 := hO
  obtain ⟨hM1, hLo1, hKo1, hno1⟩ := hI.w hO
  refine lv_istore (lv' := [(5, .int (nI cc)), (0, .ref b), (1, .ref (ad 0)), (2, .ref (bm 0)), (3, .ref oa), (4, .int i9)]) hx hb dL_law_941 hl (by decide) rfl (fun ls hl => ?_)
  refine lv_aload_n hx hb dL_law_943 rfl (lv_at hl 3 rfl) ?_
  refine lv_aload_n hx hb dL_law_944 rfl (lv_at hl 1 rfl) ?_
  refine lv_iload hx hb dL_law_945 (lv_at hl 5 rfl) ?_
  refine lv_iconst (v := 1) hx hb dL_law_947 (by decide) ?_
  refine lv_iadd hx hb dL_law_948 ?_
  refine g_sld hx hb hXs hbl hG hrd.1 dL_law_949 ?_
  refine lv_aload_n hx hb dL_law_950 rfl (lv_at hl 1 rfl) ?_
  refine lv_iload hx hb dL_law_951 (lv_at hl 5 rfl) ?_
  refine lv_iconst (v := 2) hx hb dL_law_953 (by decide) ?_
  refine lv_iadd hx hb dL_law_954 ?_
  refine g_sld hx hb hXs hbl hG hrd.2.1 dL_law_955 ?_
  refine g_calli (va_runV (As := [.int v1, .int v2]) (rest := []) ⟨hx, hb, hml, hown, hts⟩ (k_merge l G s.heap.size hM1 (v := (v1)) (j := (v2))) (cwV 2 hts gL_law_X3_merge rfl rfl rfl (by decide +kernel) ⟨(Nat.le_of_ble_eq_true rfl), (Nat.le_of_ble_eq_true rfl)⟩) (g_pv3 hK hG hM1.1.2.1 hM1.1.2.2.1) rfl rfl hl.1 rfl (lv_room (Nat.le_of_ble_eq_true rfl)) dL_law_956 hcs) hG (fun y2 u H locs hp hG => ?_)
  replace hG : gw G s.heap.size s.heap (L1, K1, n1, u.1.1, u.1.2.1, q1, u.1.2.2, R1) H locs := hG
  obtain ⟨β1, hSt, hS1, ht, hyx⟩ := ag_merge (u := u) hI.2.2.1 hI.1 hO.1 hP hp
  replace hSt : StpM (L1, K1, n1, i1, j1, q1, f1, R1) bm (L1, K1, n1, u.1.1, u.1.2.1, q1, u.1.2.2, R1) β1 := hSt
  have hI2 := hI.m hO hSt hS1
  have hM2 := hSt.1
  have hLo2 : oa ∈ L1 := hI2.1.2.2.2.1
  have hKo2 : K1 oa = 5 := hI2.1.2.2.2.2.1
  have hno2 : n1 oa = 1 := hI2.1.2.2.2.2.2
  refine lv_istore (lv' := [(6, .int y2), (5, .int (nI cc)), (0, .ref b), (1, .ref (ad 0)), (2, .ref (bm 0)), (3, .ref oa), (4, .int i9)]) hx hb dL_law_959 hl (by decide) rfl (fun ls hl => ?_)
  refine lv_aload_n hx hb dL_law_961 rfl (lv_at hl 4 rfl) ?_
  refine g_calli (va_runV (As := []) (rest := []) ⟨hx, hb, hml, hown, hts⟩ (k_thrown l G s.heap.size hM2) (cwV 0 hts gL_law_X3_thrown rfl rfl rfl (by decide +kernel) ⟨(Nat.le_of_ble_eq_true rfl), (Nat.le_of_ble_eq_true rfl)⟩) (g_pv3 hK hG hM2.1.2.1 hM2.1.2.2.1) rfl rfl hl.1 rfl (lv_room (Nat.le_of_ble_eq_true rfl)) dL_law_962 hcs) hG (fun y3 _ H locs hp hG => ?_)
  obtain rfl : y3 = nI cc := hp.trans ht
  refine lv_iload hx hb dL_law_965 (lv_at hl 1 rfl) ?_
  refine lv_icmp_eq (tgt := 972) hx hb dL_law_967 (by decide) (fun c1 => ?_) (fun c1 => ?_)
  · refine lv_iload hx hb dL_law_972 (lv_at hl 1 rfl) ?_
    refine lv_if_ne (tgt := 989) hx hb dL_law_974 (by decide) (fun c2 => ?_) (fun c2 => ?_)
    · refine lv_goto (tgt := 1911) hx hb dL_law_989 (by decide) ?_
      exact kk (L1, K1, n1, u.1.1, u.1.2.1, q1, u.1.2.2, R1) ad1 a1 β1 _ _ _ hI2.1 hG (by rw [hO.2.2.2]; exact lv_sub hl [2, 3, 4, 5, 6] rfl)
    · refine lv_aload_n hx hb dL_law_977 rfl (lv_at hl 5 rfl) ?_
      refine lv_iconst (v := 0) hx hb dL_law_978 (by decide) ?_
      refine g_lald hx hb hK hG hLo2 hKo2 (0) rfl (by rw [hno2]; decide) (by rw [hno2]; decide) dL_law_979 ?_
      refine lv_iload hx hb dL_law_980 (lv_at hl 0 rfl) ?_
      refine lv_i2l hx hb dL_law_982 rfl ?_
      refine W.lcmp hx hb dL_law_983 ?_
      refine lv_if_eq (tgt := 989) hx hb dL_law_984 (by decide) (fun c3 => ?_) (fun c3 => ?_)
      · refine lv_goto (tgt := 1911) hx hb dL_law_989 (by decide) ?_
        exact kk (L1, K1, n1, u.1.1, u.1.2.1, q1, u.1.2.2, R1) ad1 a1 β1 _ _ _ hI2.1 hG (by rw [hO.2.2.2]; exact lv_sub hl [2, 3, 4, 5, 6] rfl)
      · exact absurd ((lg_cmp_eq _ _).mpr ((congrFun hI2.2 0).trans (hyx (by first | exact c2 | exact Classical.not_not.mp c2)))) c3
  · exact absurd rfl c1
set_option maxHeartbeats 4000000 in
set_option maxRecDepth 100000 in
/-- the law's case group -/
theorem law_group {p : Program} {l : Launch} {e : Env} {s : State} {m : MethodId} {below : List Frame} {meth : Method} {c : Code} {b Ls : Nat} {xs : Nat → Int32} {Q : State → Prop} (hl0 : l.stackTraces = false) (C0 : lw_At p s m meth c b Ls xs) {G : gG} (hK : g_K G s) (hX : g_X s.heap.size s) (hN : g_N s) {i9 v1 v2 v3 v4 : Int32} (hrd : rdS Ls xs i9 v1 v2 v3 v4) {cells slots : Nat} (hcs : cells + 12 ≤ room_1.cells ∧ slots + 100 ≤ room_1.slots) {L : List Nat} {K n : Nat → Nat} {rI : Nat → Nat → Int32} {rJ : Nat → Nat → Int64} {rQ : Nat → Nat → Option Nat} {fI : Nat → Nat → Int32} {fR : Nat → Nat → Option Nat} {ad : Nat → Nat} {α : aT} {bm : Nat → Nat} {β : bT} {oa : Nat} (hI : LI (L, K, n, rI, rJ, rQ, fI, fR) ad α bm β oa) {H : Heap} {locs : List Loc} (hG : gw G s.heap.size s.heap (L, K, n, rI, rJ, rQ, fI, fR) H locs) {ls : Array Slot} (hl : lv_has ls 8 [(0, .ref b), (1, .ref (ad 0)), (2, .ref (bm 0)), (3, .ref oa), (4, .int i9)]) (kk : lwK p l e s m below meth c b G bm oa i9 cells slots Q) : W p l e room_1 s m #[Value.ref b] below meth c H locs cells slots Q (F0 m 992 ls []) := by
  obtain ⟨hx, hb, hr, hml, hown, hts, hXs, hbl, hlocks, hgv⟩ := C0
  have hown : s.vm.findClass RL = some m.cls := hown
  have hts : ∀ w ∈ wsL_law, w.before #[Value.ref b] s = true := fun w h => hts w (wsL_law_in w h)
  have hLo := hI.2.2.2.1
  have hKo := hI.2.2.2.2.1
  have hno := hI.2.2.2.2.2
  have hio := dj_o hI.1 hKo hno
  refine lv_aload_n hx hb dL_law_992 rfl (lv_at hl 1 rfl) ?_
  refine lv_aload_n hx hb dL_law_993 rfl (lv_at hl 0 rfl) ?_
  refine lv_iload hx hb dL_law_994 (lv_at hl 4 rfl) ?_
  refine lv_iconst (v := 1) hx hb dL_law_996 (by decide) ?_
  refine lv_iadd hx hb dL_law_997 ?_
  refine g_sld hx hb hXs hbl hG hrd.1 dL_law_998 ?_
  refine lv_aload_n hx hb dL_law_999 rfl (lv_at hl 0 rfl) ?_
  refine lv_iload hx hb dL_law_1000 (lv_at hl 4 rfl) ?_
  refine lv_iconst (v := 2) hx hb dL_law_1002 (by decide) ?_
  refine lv_iadd hx hb dL_law_1003 ?_
  refine g_sld hx hb hXs hbl hG hrd.2.1 dL_law_1004 ?_
  refine lv_aload_n hx hb dL_law_1005 rfl (lv_at hl 3 rfl) ?_
  refine g_calli (vx_runSW (As := [.ref (ad 0), .int v1, .int v2, .ref oa]) (rest := []) ⟨hx, hb, hml, hown, hts⟩ (w_group l G s.heap.size hl0 hI.1 hLo hKo hno hio (i := (v1)) (j := (v2))) (vx_cwSW 4 hts gL_law_L_group rfl rfl rfl (by decide +kernel) ⟨(Nat.le_of_ble_eq_true rfl), (Nat.le_of_ble_eq_true rfl)⟩) (g_psy hK hX hN hG) rfl rfl hl.1 rfl (lv_room (Nat.le_of_ble_eq_true rfl)) dL_law_1006 hcs) hG (fun y1 u H locs hp hG => ?_)
  obtain ⟨⟨L1, K1, n1, i1, j1, q1, f1, R1⟩, ad1, a1⟩ := u
  replace hG : gw G s.heap.size s.heap (L1, K1, n1, i1, j1, q1, f1, R1) H locs := hG
  obtain ⟨cc, rfl, hO, hP⟩ := hp
  replace hO : StpO (L, K, n, rI, rJ, rQ, fI, fR) ad α oa (L1, K1, n1, i1, j1, q1, f1, R1) ad1 a1 := hO
  obtain ⟨hM1, hLo1, hKo1, hno1⟩ := hI.w hO
  refine lv_istore (lv' := [(5, .int (nI cc)), (0, .ref b), (1, .ref (ad 0)), (2, .ref (bm 0)), (3, .ref oa), (4, .int i9)]) hx hb dL_law_1009 hl (by decide) rfl (fun ls hl => ?_)
  refine lv_aload_n hx hb dL_law_1011 rfl (lv_at hl 3 rfl) ?_
  refine lv_aload_n hx hb dL_law_1012 rfl (lv_at hl 1 rfl) ?_
  refine lv_iload hx hb dL_law_1013 (lv_at hl 5 rfl) ?_
  refine lv_iconst (v := 1) hx hb dL_law_1015 (by decide) ?_
  refine lv_iadd hx hb dL_law_1016 ?_
  refine g_sld hx hb hXs hbl hG hrd.1 dL_law_1017 ?_
  refine lv_aload_n hx hb dL_law_1018 rfl (lv_at hl 1 rfl) ?_
  refine lv_iload hx hb dL_law_1019 (lv_at hl 5 rfl) ?_
  refine lv_iconst (v := 2) hx hb dL_law_1021 (by decide) ?_
  refine lv_iadd hx hb dL_law_1022 ?_
  refine g_sld hx hb hXs hbl hG hrd.2.1 dL_law_1023 ?_
  refine g_calli (va_runV (As := [.int v1, .int v2]) (rest := []) ⟨hx, hb, hml, hown, hts⟩ (k_group l G s.heap.size hM1 (v := (v1)) (j := (v2))) (cwV 2 hts gL_law_X3_group rfl rfl rfl (by decide +kernel) ⟨(Nat.le_of_ble_eq_true rfl), (Nat.le_of_ble_eq_true rfl)⟩) (g_pv3 hK hG hM1.1.2.1 hM1.1.2.2.1) rfl rfl hl.1 rfl (lv_room (Nat.le_of_ble_eq_true rfl)) dL_law_1024 hcs) hG (fun y2 u H locs hp hG => ?_)
  replace hG : gw G s.heap.size s.heap (L1, K1, n1, u.1.1, u.1.2.1, q1, u.1.2.2, R1) H locs := hG
  obtain ⟨β1, hSt, hS1, ht, hyx⟩ := ag_group (u := u) hI.2.2.1 hI.1 hO.1 hP hp
  replace hSt : StpM (L1, K1, n1, i1, j1, q1, f1, R1) bm (L1, K1, n1, u.1.1, u.1.2.1, q1, u.1.2.2, R1) β1 := hSt
  have hI2 := hI.m hO hSt hS1
  have hM2 := hSt.1
  have hLo2 : oa ∈ L1 := hI2.1.2.2.2.1
  have hKo2 : K1 oa = 5 := hI2.1.2.2.2.2.1
  have hno2 : n1 oa = 1 := hI2.1.2.2.2.2.2
  refine lv_istore (lv' := [(6, .int y2), (5, .int (nI cc)), (0, .ref b), (1, .ref (ad 0)), (2, .ref (bm 0)), (3, .ref oa), (4, .int i9)]) hx hb dL_law_1027 hl (by decide) rfl (fun ls hl => ?_)
  refine lv_aload_n hx hb dL_law_1029 rfl (lv_at hl 4 rfl) ?_
  refine g_calli (va_runV (As := []) (rest := []) ⟨hx, hb, hml, hown, hts⟩ (k_thrown l G s.heap.size hM2) (cwV 0 hts gL_law_X3_thrown rfl rfl rfl (by decide +kernel) ⟨(Nat.le_of_ble_eq_true rfl), (Nat.le_of_ble_eq_true rfl)⟩) (g_pv3 hK hG hM2.1.2.1 hM2.1.2.2.1) rfl rfl hl.1 rfl (lv_room (Nat.le_of_ble_eq_true rfl)) dL_law_1030 hcs) hG (fun y3 _ H locs hp hG => ?_)
  obtain rfl : y3 = nI cc := hp.trans ht
  refine lv_iload hx hb dL_law_1033 (lv_at hl 1 rfl) ?_
  refine lv_icmp_eq (tgt := 1040) hx hb dL_law_1035 (by decide) (fun c1 => ?_) (fun c1 => ?_)
  · refine lv_iload hx hb dL_law_1040 (lv_at hl 1 rfl) ?_
    refine lv_if_ne (tgt := 1057) hx hb dL_law_1042 (by decide) (fun c2 => ?_) (fun c2 => ?_)
    · refine lv_goto (tgt := 1911) hx hb dL_law_1057 (by decide) ?_
      exact kk (L1, K1, n1, u.1.1, u.1.2.1, q1, u.1.2.2, R1) ad1 a1 β1 _ _ _ hI2.1 hG (by rw [hO.2.2.2]; exact lv_sub hl [2, 3, 4, 5, 6] rfl)
    · refine lv_aload_n hx hb dL_law_1045 rfl (lv_at hl 5 rfl) ?_
      refine lv_iconst (v := 0) hx hb dL_law_1046 (by decide) ?_
      refine g_lald hx hb hK hG hLo2 hKo2 (0) rfl (by rw [hno2]; decide) (by rw [hno2]; decide) dL_law_1047 ?_
      refine lv_iload hx hb dL_law_1048 (lv_at hl 0 rfl) ?_
      refine lv_i2l hx hb dL_law_1050 rfl ?_
      refine W.lcmp hx hb dL_law_1051 ?_
      refine lv_if_eq (tgt := 1057) hx hb dL_law_1052 (by decide) (fun c3 => ?_) (fun c3 => ?_)
      · refine lv_goto (tgt := 1911) hx hb dL_law_1057 (by decide) ?_
        exact kk (L1, K1, n1, u.1.1, u.1.2.1, q1, u.1.2.2, R1) ad1 a1 β1 _ _ _ hI2.1 hG (by rw [hO.2.2.2]; exact lv_sub hl [2, 3, 4, 5, 6] rfl)
      · exact absurd ((lg_cmp_eq _ _).mpr ((congrFun hI2.2 0).trans (hyx (by first | exact c2 | exact Classical.not_not.mp c2)))) c3
  · exact absurd rfl c1
set_option maxHeartbeats 4000000 in
set_option maxRecDepth 100000 in
/-- the law's case whole -/
theorem law_whole {p : Program} {l : Launch} {e : Env} {s : State} {m : MethodId} {below : List Frame} {meth : Method} {c : Code} {b Ls : Nat} {xs : Nat → Int32} {Q : State → Prop} (hl0 : l.stackTraces = false) (C0 : lw_At p s m meth c b Ls xs) {G : gG} (hK : g_K G s) (hX : g_X s.heap.size s) (hN : g_N s) {i9 v1 v2 v3 v4 : Int32} (hrd : rdS Ls xs i9 v1 v2 v3 v4) {cells slots : Nat} (hcs : cells + 12 ≤ room_1.cells ∧ slots + 100 ≤ room_1.slots) {L : List Nat} {K n : Nat → Nat} {rI : Nat → Nat → Int32} {rJ : Nat → Nat → Int64} {rQ : Nat → Nat → Option Nat} {fI : Nat → Nat → Int32} {fR : Nat → Nat → Option Nat} {ad : Nat → Nat} {α : aT} {bm : Nat → Nat} {β : bT} {oa : Nat} (hI : LI (L, K, n, rI, rJ, rQ, fI, fR) ad α bm β oa) {H : Heap} {locs : List Loc} (hG : gw G s.heap.size s.heap (L, K, n, rI, rJ, rQ, fI, fR) H locs) {ls : Array Slot} (hl : lv_has ls 8 [(0, .ref b), (1, .ref (ad 0)), (2, .ref (bm 0)), (3, .ref oa), (4, .int i9)]) (kk : lwK p l e s m below meth c b G bm oa i9 cells slots Q) : W p l e room_1 s m #[Value.ref b] below meth c H locs cells slots Q (F0 m 1060 ls []) := by
  obtain ⟨hx, hb, hr, hml, hown, hts, hXs, hbl, hlocks, hgv⟩ := C0
  have hown : s.vm.findClass RL = some m.cls := hown
  have hts : ∀ w ∈ wsL_law, w.before #[Value.ref b] s = true := fun w h => hts w (wsL_law_in w h)
  have hLo := hI.2.2.2.1
  have hKo := hI.2.2.2.2.1
  have hno := hI.2.2.2.2.2
  have hio := dj_o hI.1 hKo hno
  refine lv_aload_n hx hb dL_law_1060 rfl (lv_at hl 1 rfl) ?_
  refine lv_aload_n hx hb dL_law_1061 rfl (lv_at hl 0 rfl) ?_
  refine lv_iload hx hb dL_law_1062 (lv_at hl 4 rfl) ?_
  refine lv_iconst (v := 1) hx hb dL_law_1064 (by decide) ?_
  refine lv_iadd hx hb dL_law_1065 ?_
  refine g_sld hx hb hXs hbl hG hrd.1 dL_law_1066 ?_
  refine lv_aload_n hx hb dL_law_1067 rfl (lv_at hl 3 rfl) ?_
  refine g_calli (vx_runSW (As := [.ref (ad 0), .int v1, .ref oa]) (rest := []) ⟨hx, hb, hml, hown, hts⟩ (w_whole l G s.heap.size hl0 hI.1 hLo hKo hno hio (i := (v1))) (vx_cwSW 3 hts gL_law_L_whole rfl rfl rfl (by decide +kernel) ⟨(Nat.le_of_ble_eq_true rfl), (Nat.le_of_ble_eq_true rfl)⟩) (g_psy hK hX hN hG) rfl rfl hl.1 rfl (lv_room (Nat.le_of_ble_eq_true rfl)) dL_law_1068 hcs) hG (fun y1 u H locs hp hG => ?_)
  obtain ⟨⟨L1, K1, n1, i1, j1, q1, f1, R1⟩, ad1, a1⟩ := u
  replace hG : gw G s.heap.size s.heap (L1, K1, n1, i1, j1, q1, f1, R1) H locs := hG
  obtain ⟨cc, rfl, hO, hP⟩ := hp
  replace hO : StpO (L, K, n, rI, rJ, rQ, fI, fR) ad α oa (L1, K1, n1, i1, j1, q1, f1, R1) ad1 a1 := hO
  obtain ⟨hM1, hLo1, hKo1, hno1⟩ := hI.w hO
  refine lv_istore (lv' := [(5, .int (nI cc)), (0, .ref b), (1, .ref (ad 0)), (2, .ref (bm 0)), (3, .ref oa), (4, .int i9)]) hx hb dL_law_1071 hl (by decide) rfl (fun ls hl => ?_)
  refine lv_aload_n hx hb dL_law_1073 rfl (lv_at hl 3 rfl) ?_
  refine lv_aload_n hx hb dL_law_1074 rfl (lv_at hl 1 rfl) ?_
  refine lv_iload hx hb dL_law_1075 (lv_at hl 5 rfl) ?_
  refine lv_iconst (v := 1) hx hb dL_law_1077 (by decide) ?_
  refine lv_iadd hx hb dL_law_1078 ?_
  refine g_sld hx hb hXs hbl hG hrd.1 dL_law_1079 ?_
  refine g_calli (va_runV (As := [.int v1]) (rest := []) ⟨hx, hb, hml, hown, hts⟩ (k_whole l G s.heap.size hM1 (v := (v1))) (cwV 1 hts gL_law_X3_whole rfl rfl rfl (by decide +kernel) ⟨(Nat.le_of_ble_eq_true rfl), (Nat.le_of_ble_eq_true rfl)⟩) (g_pv3 hK hG hM1.1.2.1 hM1.1.2.2.1) rfl rfl hl.1 rfl (lv_room (Nat.le_of_ble_eq_true rfl)) dL_law_1080 hcs) hG (fun y2 u H locs hp hG => ?_)
  replace hG : gw G s.heap.size s.heap (L1, K1, n1, u.1.1, u.1.2.1, q1, u.1.2.2, R1) H locs := hG
  obtain ⟨β1, hSt, hS1, ht, hyx⟩ := ag_whole (u := u) hI.2.2.1 hI.1 hO.1 hP hp
  replace hSt : StpM (L1, K1, n1, i1, j1, q1, f1, R1) bm (L1, K1, n1, u.1.1, u.1.2.1, q1, u.1.2.2, R1) β1 := hSt
  have hI2 := hI.m hO hSt hS1
  have hM2 := hSt.1
  have hLo2 : oa ∈ L1 := hI2.1.2.2.2.1
  have hKo2 : K1 oa = 5 := hI2.1.2.2.2.2.1
  have hno2 : n1 oa = 1 := hI2.1.2.2.2.2.2
  refine lv_istore (lv' := [(6, .int y2), (5, .int (nI cc)), (0, .ref b), (1, .ref (ad 0)), (2, .ref (bm 0)), (3, .ref oa), (4, .int i9)]) hx hb dL_law_1083 hl (by decide) rfl (fun ls hl => ?_)
  refine lv_aload_n hx hb dL_law_1085 rfl (lv_at hl 4 rfl) ?_
  refine g_calli (va_runV (As := []) (rest := []) ⟨hx, hb, hml, hown, hts⟩ (k_thrown l G s.heap.size hM2) (cwV 0 hts gL_law_X3_thrown rfl rfl rfl (by decide +kernel) ⟨(Nat.le_of_ble_eq_true rfl), (Nat.le_of_ble_eq_true rfl)⟩) (g_pv3 hK hG hM2.1.2.1 hM2.1.2.2.1) rfl rfl hl.1 rfl (lv_room (Nat.le_of_ble_eq_true rfl)) dL_law_1086 hcs) hG (fun y3 _ H locs hp hG => ?_)
  obtain rfl : y3 = nI cc := hp.trans ht
  refine lv_iload hx hb dL_law_1089 (lv_at hl 1 rfl) ?_
  refine lv_icmp_eq (tgt := 1096) hx hb dL_law_1091 (by decide) (fun c1 => ?_) (fun c1 => ?_)
  · refine lv_iload hx hb dL_law_1096 (lv_at hl 1 rfl) ?_
    refine lv_if_ne (tgt := 1113) hx hb dL_law_1098 (by decide) (fun c2 => ?_) (fun c2 => ?_)
    · refine lv_goto (tgt := 1911) hx hb dL_law_1113 (by decide) ?_
      exact kk (L1, K1, n1, u.1.1, u.1.2.1, q1, u.1.2.2, R1) ad1 a1 β1 _ _ _ hI2.1 hG (by rw [hO.2.2.2]; exact lv_sub hl [2, 3, 4, 5, 6] rfl)
    · refine lv_aload_n hx hb dL_law_1101 rfl (lv_at hl 5 rfl) ?_
      refine lv_iconst (v := 0) hx hb dL_law_1102 (by decide) ?_
      refine g_lald hx hb hK hG hLo2 hKo2 (0) rfl (by rw [hno2]; decide) (by rw [hno2]; decide) dL_law_1103 ?_
      refine lv_iload hx hb dL_law_1104 (lv_at hl 0 rfl) ?_
      refine lv_i2l hx hb dL_law_1106 rfl ?_
      refine W.lcmp hx hb dL_law_1107 ?_
      refine lv_if_eq (tgt := 1113) hx hb dL_law_1108 (by decide) (fun c3 => ?_) (fun c3 => ?_)
      · refine lv_goto (tgt := 1911) hx hb dL_law_1113 (by decide) ?_
        exact kk (L1, K1, n1, u.1.1, u.1.2.1, q1, u.1.2.2, R1) ad1 a1 β1 _ _ _ hI2.1 hG (by rw [hO.2.2.2]; exact lv_sub hl [2, 3, 4, 5, 6] rfl)
      · exact absurd ((lg_cmp_eq _ _).mpr ((congrFun hI2.2 0).trans (hyx (by first | exact c2 | exact Classical.not_not.mp c2)))) c3
  · exact absurd rfl c1
set_option maxHeartbeats 4000000 in
set_option maxRecDepth 100000 in
/-- the law's case deltas -/
theorem law_deltas {p : Program} {l : Launch} {e : Env} {s : State} {m : MethodId} {below : List Frame} {meth : Method} {c : Code} {b Ls : Nat} {xs : Nat → Int32} {Q : State → Prop} (hl0 : l.stackTraces = false) (C0 : lw_At p s m meth c b Ls xs) {G : gG} (hK : g_K G s) (hX : g_X s.heap.size s) (hN : g_N s) {i9 v1 v2 v3 v4 : Int32} (hrd : rdS Ls xs i9 v1 v2 v3 v4) {cells slots : Nat} (hcs : cells + 12 ≤ room_1.cells ∧ slots + 100 ≤ room_1.slots) {L : List Nat} {K n : Nat → Nat} {rI : Nat → Nat → Int32} {rJ : Nat → Nat → Int64} {rQ : Nat → Nat → Option Nat} {fI : Nat → Nat → Int32} {fR : Nat → Nat → Option Nat} {ad : Nat → Nat} {α : aT} {bm : Nat → Nat} {β : bT} {oa : Nat} (hI : LI (L, K, n, rI, rJ, rQ, fI, fR) ad α bm β oa) {H : Heap} {locs : List Loc} (hG : gw G s.heap.size s.heap (L, K, n, rI, rJ, rQ, fI, fR) H locs) {ls : Array Slot} (hl : lv_has ls 8 [(0, .ref b), (1, .ref (ad 0)), (2, .ref (bm 0)), (3, .ref oa), (4, .int i9)]) (kk : lwK p l e s m below meth c b G bm oa i9 cells slots Q) : W p l e room_1 s m #[Value.ref b] below meth c H locs cells slots Q (F0 m 1116 ls []) := by
  obtain ⟨hx, hb, hr, hml, hown, hts, hXs, hbl, hlocks, hgv⟩ := C0
  have hown : s.vm.findClass RL = some m.cls := hown
  have hts : ∀ w ∈ wsL_law, w.before #[Value.ref b] s = true := fun w h => hts w (wsL_law_in w h)
  refine lv_aload_n hx hb dL_law_1116 rfl (lv_at hl 1 rfl) ?_
  refine g_calli (va_runV (As := []) (rest := []) ⟨hx, hb, hml, hown, hts⟩ (c_deltas l G s.heap.size hI.1) (cwV 0 hts gL_law_X2_deltas rfl rfl rfl (by decide +kernel) ⟨(Nat.le_of_ble_eq_true rfl), (Nat.le_of_ble_eq_true rfl)⟩) (g_pv2 hK hG hI.1.1.2.2.1.1 hI.1.1.2.2.1.2.1) rfl rfl hl.1 rfl (lv_room (Nat.le_of_ble_eq_true rfl)) dL_law_1117 ⟨Nat.le_trans (Nat.le_add_right cells 12) hcs.1, Nat.le_trans (Nat.le_add_right slots 100) hcs.2⟩) hG (fun y1 _ H locs hp hG => ?_)
  obtain rfl : y1 = nI (a_nd α) := hp
  refine lv_aload_n hx hb dL_law_1120 rfl (lv_at hl 2 rfl) ?_
  refine g_calli (va_runV (As := []) (rest := [.int (nI (a_nd α))]) ⟨hx, hb, hml, hown, hts⟩ (k_deltas l G s.heap.size hI.2.1) (cwV 0 hts gL_law_X3_deltas rfl rfl rfl (by decide +kernel) ⟨(Nat.le_of_ble_eq_true rfl), (Nat.le_of_ble_eq_true rfl)⟩) (g_pv3 hK hG hI.2.1.1.2.1 hI.2.1.1.2.2.1) rfl rfl hl.1 rfl (lv_room (Nat.le_of_ble_eq_true rfl)) dL_law_1121 ⟨Nat.le_trans (Nat.le_add_right cells 12) hcs.1, Nat.le_trans (Nat.le_add_right slots 100) hcs.2⟩) hG (fun y2 _ H locs hp hG => ?_)
  obtain rfl : y2 = nI (b_nd β) := hp
  refine lv_icmp_eq (tgt := 1911) hx hb dL_law_1124 (by decide) (fun c1 => ?_) (fun c1 => ?_)
  · refine W.widen (k := cells + 12) (n := slots + 100) (Nat.le_add_right _ _) (Nat.le_add_right _ _) ?_
    have hSt : StpM (L, K, n, rI, rJ, rQ, fI, fR) bm (L, K, n, rI, rJ, rQ, (g_up fI (bm 0) 0 0), fR) β := repM_F0 hI.2.1 (g_up_i _ _ _ _ (by decide)) (fun b9 hb9 => g_up_other _ _ _ hb9)
    have hI2 := hI.m (stpO_id (StpX.rf hI.1)) hSt hI.2.2.1
    exact kk (L, K, n, rI, rJ, rQ, (g_up fI (bm 0) 0 0), fR) ad α β _ _ _ hI2.1 hG (by exact lv_sub hl [0, 1, 2, 3, 4] rfl)
  · exact absurd (by rw [hI.2.2.1.2.2]) c1
