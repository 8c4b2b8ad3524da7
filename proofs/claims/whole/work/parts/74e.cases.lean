set_option maxHeartbeats 4000000 in
set_option maxRecDepth 100000 in
/-- the law's case keys -/
theorem law_keys {p : Program} {l : Launch} {e : Env} {s : State} {m : MethodId} {below : List Frame} {meth : Method} {c : Code} {b Ls : Nat} {xs : Nat → Int32} {Q : State → Prop} (hl0 : l.stackTraces = false) (C0 : lw_At p s m meth c b Ls xs) {G : gG} (hK : g_K G s) (hX : g_X s.heap.size s) (hN : g_N s) {i9 v1 v2 v3 v4 : Int32} (hrd : rdS Ls xs i9 v1 v2 v3 v4) {cells slots : Nat} (hcs : cells + 12 ≤ room_1.cells ∧ slots + 100 ≤ room_1.slots) {L : List Nat} {K n : Nat → Nat} {rI : Nat → Nat → Int32} {rJ : Nat → Nat → Int64} {rQ : Nat → Nat → Option Nat} {fI : Nat → Nat → Int32} {fR : Nat → Nat → Option Nat} {ad : Nat → Nat} {α : aT} {bm : Nat → Nat} {β : bT} {oa : Nat} (hI : LI (L, K, n, rI, rJ, rQ, fI, fR) ad α bm β oa) {H : Heap} {locs : List Loc} (hG : gw G s.heap.size s.heap (L, K, n, rI, rJ, rQ, fI, fR) H locs) {ls : Array Slot} (hl : lv_has ls 8 [(0, .ref b), (1, .ref (ad 0)), (2, .ref (bm 0)), (3, .ref oa), (4, .int i9)]) (kk : lwK p l e s m below meth c b G bm oa i9 cells slots Q) : W p l e room_1 s m #[Value.ref b] below meth c H locs cells slots Q (F0 m 1423 ls []) := by
  obtain ⟨hx, hb, hr, hml, hown, hts, hXs, hbl, hlocks, hgv⟩ := C0
  have hown : s.vm.findClass RL = some m.cls := hown
  have hts : ∀ w ∈ wsL_law, w.before #[Value.ref b] s = true := fun w h => hts w (wsL_law_in w h)
  have hLo := hI.2.2.2.1
  have hKo := hI.2.2.2.2.1
  have hno := hI.2.2.2.2.2
  have hio := dj_o hI.1 hKo hno
  refine lv_aload_n hx hb dL_law_1423 rfl (lv_at hl 1 rfl) ?_
  refine lv_aload_n hx hb dL_law_1424 rfl (lv_at hl 0 rfl) ?_
  refine lv_iload hx hb dL_law_1425 (lv_at hl 4 rfl) ?_
  refine lv_iconst (v := 1) hx hb dL_law_1427 (by decide) ?_
  refine lv_iadd hx hb dL_law_1428 ?_
  refine g_sld hx hb hXs hbl hG hrd.1 dL_law_1429 ?_
  refine lv_aload_n hx hb dL_law_1430 rfl (lv_at hl 3 rfl) ?_
  refine g_calli (vx_runSW (As := [.ref (ad 0), .int v1, .ref oa]) (rest := []) ⟨hx, hb, hml, hown, hts⟩ (w_keys l G s.heap.size hl0 hI.1 hLo hKo hno hio (i := (v1))) (vx_cwSW 3 hts gL_law_L_keys rfl rfl rfl (by decide +kernel) ⟨(Nat.le_of_ble_eq_true rfl), (Nat.le_of_ble_eq_true rfl)⟩) (g_psy hK hX hN hG) rfl rfl hl.1 rfl (lv_room (Nat.le_of_ble_eq_true rfl)) dL_law_1431 hcs) hG (fun y1 u H locs hp hG => ?_)
  obtain ⟨⟨L1, K1, n1, i1, j1, q1, f1, R1⟩, ad1, a1⟩ := u
  replace hG : gw G s.heap.size s.heap (L1, K1, n1, i1, j1, q1, f1, R1) H locs := hG
  obtain ⟨cc, rfl, hO, hP⟩ := hp
  replace hO : StpO (L, K, n, rI, rJ, rQ, fI, fR) ad α oa (L1, K1, n1, i1, j1, q1, f1, R1) ad1 a1 := hO
  obtain ⟨hM1, hLo1, hKo1, hno1⟩ := hI.w hO
  refine lv_istore (lv' := [(5, .int (nI cc)), (0, .ref b), (1, .ref (ad 0)), (2, .ref (bm 0)), (3, .ref oa), (4, .int i9)]) hx hb dL_law_1434 hl (by decide) rfl (fun ls hl => ?_)
  refine lv_aload_n hx hb dL_law_1436 rfl (lv_at hl 3 rfl) ?_
  refine lv_aload_n hx hb dL_law_1437 rfl (lv_at hl 1 rfl) ?_
  refine lv_iload hx hb dL_law_1438 (lv_at hl 5 rfl) ?_
  refine lv_iconst (v := 1) hx hb dL_law_1440 (by decide) ?_
  refine lv_iadd hx hb dL_law_1441 ?_
  refine g_sld hx hb hXs hbl hG hrd.1 dL_law_1442 ?_
  refine g_calli (va_runV (As := [.int v1]) (rest := []) ⟨hx, hb, hml, hown, hts⟩ (k_keys l G s.heap.size hM1 (v := (v1))) (cwV 1 hts gL_law_X3_keys rfl rfl rfl (by decide +kernel) ⟨(Nat.le_of_ble_eq_true rfl), (Nat.le_of_ble_eq_true rfl)⟩) (g_pv3 hK hG hM1.1.2.1 hM1.1.2.2.1) rfl rfl hl.1 rfl (lv_room (Nat.le_of_ble_eq_true rfl)) dL_law_1443 hcs) hG (fun y2 u H locs hp hG => ?_)
  replace hG : gw G s.heap.size s.heap (L1, K1, n1, i1, j1, q1, u.1, R1) H locs := hG
  obtain ⟨β1, hSt, hS1, ht, hyx⟩ := ag_keys (u := u) hI.2.2.1 hI.1 hO.1 hP hp
  replace hSt : StpM (L1, K1, n1, i1, j1, q1, f1, R1) bm (L1, K1, n1, i1, j1, q1, u.1, R1) β1 := hSt
  have hI2 := hI.m hO hSt hS1
  have hM2 := hSt.1
  have hLo2 : oa ∈ L1 := hI2.1.2.2.2.1
  have hKo2 : K1 oa = 5 := hI2.1.2.2.2.2.1
  have hno2 : n1 oa = 1 := hI2.1.2.2.2.2.2
  refine lv_istore (lv' := [(6, .int y2), (5, .int (nI cc)), (0, .ref b), (1, .ref (ad 0)), (2, .ref (bm 0)), (3, .ref oa), (4, .int i9)]) hx hb dL_law_1446 hl (by decide) rfl (fun ls hl => ?_)
  refine lv_aload_n hx hb dL_law_1448 rfl (lv_at hl 4 rfl) ?_
  refine g_calli (va_runV (As := []) (rest := []) ⟨hx, hb, hml, hown, hts⟩ (k_thrown l G s.heap.size hM2) (cwV 0 hts gL_law_X3_thrown rfl rfl rfl (by decide +kernel) ⟨(Nat.le_of_ble_eq_true rfl), (Nat.le_of_ble_eq_true rfl)⟩) (g_pv3 hK hG hM2.1.2.1 hM2.1.2.2.1) rfl rfl hl.1 rfl (lv_room (Nat.le_of_ble_eq_true rfl)) dL_law_1449 hcs) hG (fun y3 _ H locs hp hG => ?_)
  obtain rfl : y3 = nI cc := hp.trans ht
  refine lv_iload hx hb dL_law_1452 (lv_at hl 1 rfl) ?_
  refine lv_icmp_eq (tgt := 1459) hx hb dL_law_1454 (by decide) (fun c1 => ?_) (fun c1 => ?_)
  · refine lv_iload hx hb dL_law_1459 (lv_at hl 1 rfl) ?_
    refine lv_if_ne (tgt := 1476) hx hb dL_law_1461 (by decide) (fun c2 => ?_) (fun c2 => ?_)
    · refine lv_goto (tgt := 1911) hx hb dL_law_1476 (by decide) ?_
      exact kk (L1, K1, n1, i1, j1, q1, u.1, R1) ad1 a1 β1 _ _ _ hI2.1 hG (by rw [hO.2.2.2]; exact lv_sub hl [2, 3, 4, 5, 6] rfl)
    · refine lv_aload_n hx hb dL_law_1464 rfl (lv_at hl 5 rfl) ?_
      refine lv_iconst (v := 0) hx hb dL_law_1465 (by decide) ?_
      refine g_lald hx hb hK hG hLo2 hKo2 (0) rfl (by rw [hno2]; decide) (by rw [hno2]; decide) dL_law_1466 ?_
      refine lv_iload hx hb dL_law_1467 (lv_at hl 0 rfl) ?_
      refine lv_i2l hx hb dL_law_1469 rfl ?_
      refine W.lcmp hx hb dL_law_1470 ?_
      refine lv_if_eq (tgt := 1476) hx hb dL_law_1471 (by decide) (fun c3 => ?_) (fun c3 => ?_)
      · refine lv_goto (tgt := 1911) hx hb dL_law_1476 (by decide) ?_
        exact kk (L1, K1, n1, i1, j1, q1, u.1, R1) ad1 a1 β1 _ _ _ hI2.1 hG (by rw [hO.2.2.2]; exact lv_sub hl [2, 3, 4, 5, 6] rfl)
      · exact absurd ((lg_cmp_eq _ _).mpr ((congrFun hI2.2 0).trans (hyx (by first | exact c2 | exact Classical.not_not.mp c2)))) c3
  · exact absurd rfl c1
set_option maxHeartbeats 4000000 in
set_option maxRecDepth 100000 in
/-- the law's case inTwice -/
theorem law_inTwice {p : Program} {l : Launch} {e : Env} {s : State} {m : MethodId} {below : List Frame} {meth : Method} {c : Code} {b Ls : Nat} {xs : Nat → Int32} {Q : State → Prop} (hl0 : l.stackTraces = false) (C0 : lw_At p s m meth c b Ls xs) {G : gG} (hK : g_K G s) (hX : g_X s.heap.size s) (hN : g_N s) {i9 v1 v2 v3 v4 : Int32} (hrd : rdS Ls xs i9 v1 v2 v3 v4) {cells slots : Nat} (hcs : cells + 12 ≤ room_1.cells ∧ slots + 100 ≤ room_1.slots) {L : List Nat} {K n : Nat → Nat} {rI : Nat → Nat → Int32} {rJ : Nat → Nat → Int64} {rQ : Nat → Nat → Option Nat} {fI : Nat → Nat → Int32} {fR : Nat → Nat → Option Nat} {ad : Nat → Nat} {α : aT} {bm : Nat → Nat} {β : bT} {oa : Nat} (hI : LI (L, K, n, rI, rJ, rQ, fI, fR) ad α bm β oa) {H : Heap} {locs : List Loc} (hG : gw G s.heap.size s.heap (L, K, n, rI, rJ, rQ, fI, fR) H locs) {ls : Array Slot} (hl : lv_has ls 8 [(0, .ref b), (1, .ref (ad 0)), (2, .ref (bm 0)), (3, .ref oa), (4, .int i9)]) (kk : lwK p l e s m below meth c b G bm oa i9 cells slots Q) : W p l e room_1 s m #[Value.ref b] below meth c H locs cells slots Q (F0 m 1479 ls []) := by
  obtain ⟨hx, hb, hr, hml, hown, hts, hXs, hbl, hlocks, hgv⟩ := C0
  have hown : s.vm.findClass RL = some m.cls := hown
  have hts : ∀ w ∈ wsL_law, w.before #[Value.ref b] s = true := fun w h => hts w (wsL_law_in w h)
  have hLo := hI.2.2.2.1
  have hKo := hI.2.2.2.2.1
  have hno := hI.2.2.2.2.2
  have hio := dj_o hI.1 hKo hno
  refine lv_aload_n hx hb dL_law_1479 rfl (lv_at hl 1 rfl) ?_
  refine lv_aload_n hx hb dL_law_1480 rfl (lv_at hl 0 rfl) ?_
  refine lv_iload hx hb dL_law_1481 (lv_at hl 4 rfl) ?_
  refine lv_iconst (v := 1) hx hb dL_law_1483 (by decide) ?_
  refine lv_iadd hx hb dL_law_1484 ?_
  refine g_sld hx hb hXs hbl hG hrd.1 dL_law_1485 ?_
  refine lv_aload_n hx hb dL_law_1486 rfl (lv_at hl 0 rfl) ?_
  refine lv_iload hx hb dL_law_1487 (lv_at hl 4 rfl) ?_
  refine lv_iconst (v := 2) hx hb dL_law_1489 (by decide) ?_
  refine lv_iadd hx hb dL_law_1490 ?_
  refine g_sld hx hb hXs hbl hG hrd.2.1 dL_law_1491 ?_
  refine lv_aload_n hx hb dL_law_1492 rfl (lv_at hl 3 rfl) ?_
  refine g_calli (vx_runSW (As := [.ref (ad 0), .int v1, .int v2, .ref oa]) (rest := []) ⟨hx, hb, hml, hown, hts⟩ (w_inTwice l G s.heap.size hl0 hI.1 hLo hKo hno hio (i := (v1)) (el := (v2))) (vx_cwSW 4 hts gL_law_L_inTwice rfl rfl rfl (by decide +kernel) ⟨(Nat.le_of_ble_eq_true rfl), (Nat.le_of_ble_eq_true rfl)⟩) (g_psy hK hX hN hG) rfl rfl hl.1 rfl (lv_room (Nat.le_of_ble_eq_true rfl)) dL_law_1493 hcs) hG (fun y1 u H locs hp hG => ?_)
  obtain ⟨⟨L1, K1, n1, i1, j1, q1, f1, R1⟩, ad1, a1⟩ := u
  replace hG : gw G s.heap.size s.heap (L1, K1, n1, i1, j1, q1, f1, R1) H locs := hG
  obtain ⟨cc, rfl, hO, hP⟩ := hp
  replace hO : StpO (L, K, n, rI, rJ, rQ, fI, fR) ad α oa (L1, K1, n1, i1, j1, q1, f1, R1) ad1 a1 := hO
  obtain ⟨hM1, hLo1, hKo1, hno1⟩ := hI.w hO
  refine lv_istore (lv' := [(5, .int (nI cc)), (0, .ref b), (1, .ref (ad 0)), (2, .ref (bm 0)), (3, .ref oa), (4, .int i9)]) hx hb dL_law_1496 hl (by decide) rfl (fun ls hl => ?_)
  refine lv_aload_n hx hb dL_law_1498 rfl (lv_at hl 3 rfl) ?_
  refine lv_aload_n hx hb dL_law_1499 rfl (lv_at hl 1 rfl) ?_
  refine lv_iload hx hb dL_law_1500 (lv_at hl 5 rfl) ?_
  refine lv_iconst (v := 1) hx hb dL_law_1502 (by decide) ?_
  refine lv_iadd hx hb dL_law_1503 ?_
  refine g_sld hx hb hXs hbl hG hrd.1 dL_law_1504 ?_
  refine lv_aload_n hx hb dL_law_1505 rfl (lv_at hl 1 rfl) ?_
  refine lv_iload hx hb dL_law_1506 (lv_at hl 5 rfl) ?_
  refine lv_iconst (v := 2) hx hb dL_law_1508 (by decide) ?_
  refine lv_iadd hx hb dL_law_1509 ?_
  refine g_sld hx hb hXs hbl hG hrd.2.1 dL_law_1510 ?_
  refine g_calli (va_runV (As := [.int v1, .int v2]) (rest := []) ⟨hx, hb, hml, hown, hts⟩ (k_inTwice l G s.heap.size hM1 (v := (v1)) (el := (v2))) (cwV 2 hts gL_law_X3_inTwice rfl rfl rfl (by decide +kernel) ⟨(Nat.le_of_ble_eq_true rfl), (Nat.le_of_ble_eq_true rfl)⟩) (g_pv3 hK hG hM1.1.2.1 hM1.1.2.2.1) rfl rfl hl.1 rfl (lv_room (Nat.le_of_ble_eq_true rfl)) dL_law_1511 hcs) hG (fun y2 u H locs hp hG => ?_)
  replace hG : gw G s.heap.size s.heap (L1, K1, n1, i1, j1, q1, u.1, R1) H locs := hG
  obtain ⟨β1, hSt, hS1, ht, hyx⟩ := ag_inTwice (u := u) hI.2.2.1 hI.1 hO.1 hP hp
  replace hSt : StpM (L1, K1, n1, i1, j1, q1, f1, R1) bm (L1, K1, n1, i1, j1, q1, u.1, R1) β1 := hSt
  have hI2 := hI.m hO hSt hS1
  have hM2 := hSt.1
  have hLo2 : oa ∈ L1 := hI2.1.2.2.2.1
  have hKo2 : K1 oa = 5 := hI2.1.2.2.2.2.1
  have hno2 : n1 oa = 1 := hI2.1.2.2.2.2.2
  refine lv_istore (lv' := [(6, .int y2), (5, .int (nI cc)), (0, .ref b), (1, .ref (ad 0)), (2, .ref (bm 0)), (3, .ref oa), (4, .int i9)]) hx hb dL_law_1514 hl (by decide) rfl (fun ls hl => ?_)
  refine lv_aload_n hx hb dL_law_1516 rfl (lv_at hl 4 rfl) ?_
  refine g_calli (va_runV (As := []) (rest := []) ⟨hx, hb, hml, hown, hts⟩ (k_thrown l G s.heap.size hM2) (cwV 0 hts gL_law_X3_thrown rfl rfl rfl (by decide +kernel) ⟨(Nat.le_of_ble_eq_true rfl), (Nat.le_of_ble_eq_true rfl)⟩) (g_pv3 hK hG hM2.1.2.1 hM2.1.2.2.1) rfl rfl hl.1 rfl (lv_room (Nat.le_of_ble_eq_true rfl)) dL_law_1517 hcs) hG (fun y3 _ H locs hp hG => ?_)
  obtain rfl : y3 = nI cc := hp.trans ht
  refine lv_iload hx hb dL_law_1520 (lv_at hl 1 rfl) ?_
  refine lv_icmp_eq (tgt := 1527) hx hb dL_law_1522 (by decide) (fun c1 => ?_) (fun c1 => ?_)
  · refine lv_iload hx hb dL_law_1527 (lv_at hl 1 rfl) ?_
    refine lv_if_ne (tgt := 1544) hx hb dL_law_1529 (by decide) (fun c2 => ?_) (fun c2 => ?_)
    · refine lv_goto (tgt := 1911) hx hb dL_law_1544 (by decide) ?_
      exact kk (L1, K1, n1, i1, j1, q1, u.1, R1) ad1 a1 β1 _ _ _ hI2.1 hG (by rw [hO.2.2.2]; exact lv_sub hl [2, 3, 4, 5, 6] rfl)
    · refine lv_aload_n hx hb dL_law_1532 rfl (lv_at hl 5 rfl) ?_
      refine lv_iconst (v := 0) hx hb dL_law_1533 (by decide) ?_
      refine g_lald hx hb hK hG hLo2 hKo2 (0) rfl (by rw [hno2]; decide) (by rw [hno2]; decide) dL_law_1534 ?_
      refine lv_iload hx hb dL_law_1535 (lv_at hl 0 rfl) ?_
      refine lv_i2l hx hb dL_law_1537 rfl ?_
      refine W.lcmp hx hb dL_law_1538 ?_
      refine lv_if_eq (tgt := 1544) hx hb dL_law_1539 (by decide) (fun c3 => ?_) (fun c3 => ?_)
      · refine lv_goto (tgt := 1911) hx hb dL_law_1544 (by decide) ?_
        exact kk (L1, K1, n1, i1, j1, q1, u.1, R1) ad1 a1 β1 _ _ _ hI2.1 hG (by rw [hO.2.2.2]; exact lv_sub hl [2, 3, 4, 5, 6] rfl)
      · exact absurd ((lg_cmp_eq _ _).mpr ((congrFun hI2.2 0).trans (hyx (by first | exact c2 | exact Classical.not_not.mp c2)))) c3
  · exact absurd rfl c1
set_option maxHeartbeats 4000000 in
set_option maxRecDepth 100000 in
/-- the law's case inTimed -/
theorem law_inTimed {p : Program} {l : Launch} {e : Env} {s : State} {m : MethodId} {below : List Frame} {meth : Method} {c : Code} {b Ls : Nat} {xs : Nat → Int32} {Q : State → Prop} (hl0 : l.stackTraces = false) (C0 : lw_At p s m meth c b Ls xs) {G : gG} (hK : g_K G s) (hX : g_X s.heap.size s) (hN : g_N s) {i9 v1 v2 v3 v4 : Int32} (hrd : rdS Ls xs i9 v1 v2 v3 v4) {cells slots : Nat} (hcs : cells + 12 ≤ room_1.cells ∧ slots + 100 ≤ room_1.slots) {L : List Nat} {K n : Nat → Nat} {rI : Nat → Nat → Int32} {rJ : Nat → Nat → Int64} {rQ : Nat → Nat → Option Nat} {fI : Nat → Nat → Int32} {fR : Nat → Nat → Option Nat} {ad : Nat → Nat} {α : aT} {bm : Nat → Nat} {β : bT} {oa : Nat} (hI : LI (L, K, n, rI, rJ, rQ, fI, fR) ad α bm β oa) {H : Heap} {locs : List Loc} (hG : gw G s.heap.size s.heap (L, K, n, rI, rJ, rQ, fI, fR) H locs) {ls : Array Slot} (hl : lv_has ls 8 [(0, .ref b), (1, .ref (ad 0)), (2, .ref (bm 0)), (3, .ref oa), (4, .int i9)]) (kk : lwK p l e s m below meth c b G bm oa i9 cells slots Q) : W p l e room_1 s m #[Value.ref b] below meth c H locs cells slots Q (F0 m 1547 ls []) := by
  obtain ⟨hx, hb, hr, hml, hown, hts, hXs, hbl, hlocks, hgv⟩ := C0
  have hown : s.vm.findClass RL = some m.cls := hown
  have hts : ∀ w ∈ wsL_law, w.before #[Value.ref b] s = true := fun w h => hts w (wsL_law_in w h)
  have hLo := hI.2.2.2.1
  have hKo := hI.2.2.2.2.1
  have hno := hI.2.2.2.2.2
  have hio := dj_o hI.1 hKo hno
  refine lv_aload_n hx hb dL_law_1547 rfl (lv_at hl 1 rfl) ?_
  refine lv_aload_n hx hb dL_law_1548 rfl (lv_at hl 0 rfl) ?_
  refine lv_iload hx hb dL_law_1549 (lv_at hl 4 rfl) ?_
  refine lv_iconst (v := 1) hx hb dL_law_1551 (by decide) ?_
  refine lv_iadd hx hb dL_law_1552 ?_
  refine g_sld hx hb hXs hbl hG hrd.1 dL_law_1553 ?_
  refine lv_aload_n hx hb dL_law_1554 rfl (lv_at hl 0 rfl) ?_
  refine lv_iload hx hb dL_law_1555 (lv_at hl 4 rfl) ?_
  refine lv_iconst (v := 2) hx hb dL_law_1557 (by decide) ?_
  refine lv_iadd hx hb dL_law_1558 ?_
  refine g_sld hx hb hXs hbl hG hrd.2.1 dL_law_1559 ?_
  refine lv_aload_n hx hb dL_law_1560 rfl (lv_at hl 0 rfl) ?_
  refine lv_iload hx hb dL_law_1561 (lv_at hl 4 rfl) ?_
  refine lv_iconst (v := 3) hx hb dL_law_1563 (by decide) ?_
  refine lv_iadd hx hb dL_law_1564 ?_
  refine g_sld hx hb hXs hbl hG hrd.2.2.1 dL_law_1565 ?_
  refine lv_aload_n hx hb dL_law_1566 rfl (lv_at hl 3 rfl) ?_
  refine g_calli (vx_runSW (As := [.ref (ad 0), .int v1, .int v2, .int v3, .ref oa]) (rest := []) ⟨hx, hb, hml, hown, hts⟩ (w_inTimed l G s.heap.size hl0 hI.1 hLo hKo hno hio (i := (v1)) (el := (v2)) (wh := (v3))) (vx_cwSW 5 hts gL_law_L_inTimed rfl rfl rfl (by decide +kernel) ⟨(Nat.le_of_ble_eq_true rfl), (Nat.le_of_ble_eq_true rfl)⟩) (g_psy hK hX hN hG) rfl rfl hl.1 rfl (lv_room (Nat.le_of_ble_eq_true rfl)) dL_law_1567 hcs) hG (fun y1 u H locs hp hG => ?_)
  obtain ⟨⟨L1, K1, n1, i1, j1, q1, f1, R1⟩, ad1, a1⟩ := u
  replace hG : gw G s.heap.size s.heap (L1, K1, n1, i1, j1, q1, f1, R1) H locs := hG
  obtain ⟨cc, rfl, hO, hP⟩ := hp
  replace hO : StpO (L, K, n, rI, rJ, rQ, fI, fR) ad α oa (L1, K1, n1, i1, j1, q1, f1, R1) ad1 a1 := hO
  obtain ⟨hM1, hLo1, hKo1, hno1⟩ := hI.w hO
  refine lv_istore (lv' := [(5, .int (nI cc)), (0, .ref b), (1, .ref (ad 0)), (2, .ref (bm 0)), (3, .ref oa), (4, .int i9)]) hx hb dL_law_1570 hl (by decide) rfl (fun ls hl => ?_)
  refine lv_aload_n hx hb dL_law_1572 rfl (lv_at hl 3 rfl) ?_
  refine lv_aload_n hx hb dL_law_1573 rfl (lv_at hl 1 rfl) ?_
  refine lv_iload hx hb dL_law_1574 (lv_at hl 5 rfl) ?_
  refine lv_iconst (v := 1) hx hb dL_law_1576 (by decide) ?_
  refine lv_iadd hx hb dL_law_1577 ?_
  refine g_sld hx hb hXs hbl hG hrd.1 dL_law_1578 ?_
  refine lv_aload_n hx hb dL_law_1579 rfl (lv_at hl 1 rfl) ?_
  refine lv_iload hx hb dL_law_1580 (lv_at hl 5 rfl) ?_
  refine lv_iconst (v := 2) hx hb dL_law_1582 (by decide) ?_
  refine lv_iadd hx hb dL_law_1583 ?_
  refine g_sld hx hb hXs hbl hG hrd.2.1 dL_law_1584 ?_
  refine lv_aload_n hx hb dL_law_1585 rfl (lv_at hl 1 rfl) ?_
  refine lv_iload hx hb dL_law_1586 (lv_at hl 5 rfl) ?_
  refine lv_iconst (v := 3) hx hb dL_law_1588 (by decide) ?_
  refine lv_iadd hx hb dL_law_1589 ?_
  refine g_sld hx hb hXs hbl hG hrd.2.2.1 dL_law_1590 ?_
  refine g_calli (va_runV (As := [.int v1, .int v2, .int v3]) (rest := []) ⟨hx, hb, hml, hown, hts⟩ (k_inTimed l G s.heap.size hM1 (v := (v1)) (el := (v2)) (wh := (v3))) (cwV 3 hts gL_law_X3_inTimed rfl rfl rfl (by decide +kernel) ⟨(Nat.le_of_ble_eq_true rfl), (Nat.le_of_ble_eq_true rfl)⟩) (g_pv3 hK hG hM1.1.2.1 hM1.1.2.2.1) rfl rfl hl.1 rfl (lv_room (Nat.le_of_ble_eq_true rfl)) dL_law_1591 hcs) hG (fun y2 u H locs hp hG => ?_)
  replace hG : gw G s.heap.size s.heap (L1, K1, n1, i1, j1, q1, u.1, R1) H locs := hG
  obtain ⟨β1, hSt, hS1, ht, hyx⟩ := ag_inTimed (u := u) hI.2.2.1 hI.1 hO.1 hP hp
  replace hSt : StpM (L1, K1, n1, i1, j1, q1, f1, R1) bm (L1, K1, n1, i1, j1, q1, u.1, R1) β1 := hSt
  have hI2 := hI.m hO hSt hS1
  have hM2 := hSt.1
  have hLo2 : oa ∈ L1 := hI2.1.2.2.2.1
  have hKo2 : K1 oa = 5 := hI2.1.2.2.2.2.1
  have hno2 : n1 oa = 1 := hI2.1.2.2.2.2.2
  refine lv_istore (lv' := [(6, .int y2), (5, .int (nI cc)), (0, .ref b), (1, .ref (ad 0)), (2, .ref (bm 0)), (3, .ref oa), (4, .int i9)]) hx hb dL_law_1594 hl (by decide) rfl (fun ls hl => ?_)
  refine lv_aload_n hx hb dL_law_1596 rfl (lv_at hl 4 rfl) ?_
  refine g_calli (va_runV (As := []) (rest := []) ⟨hx, hb, hml, hown, hts⟩ (k_thrown l G s.heap.size hM2) (cwV 0 hts gL_law_X3_thrown rfl rfl rfl (by decide +kernel) ⟨(Nat.le_of_ble_eq_true rfl), (Nat.le_of_ble_eq_true rfl)⟩) (g_pv3 hK hG hM2.1.2.1 hM2.1.2.2.1) rfl rfl hl.1 rfl (lv_room (Nat.le_of_ble_eq_true rfl)) dL_law_1597 hcs) hG (fun y3 _ H locs hp hG => ?_)
  obtain rfl : y3 = nI cc := hp.trans ht
  refine lv_iload hx hb dL_law_1600 (lv_at hl 1 rfl) ?_
  refine lv_icmp_eq (tgt := 1607) hx hb dL_law_1602 (by decide) (fun c1 => ?_) (fun c1 => ?_)
  · refine lv_iload hx hb dL_law_1607 (lv_at hl 1 rfl) ?_
    refine lv_if_ne (tgt := 1624) hx hb dL_law_1609 (by decide) (fun c2 => ?_) (fun c2 => ?_)
    · refine lv_goto (tgt := 1911) hx hb dL_law_1624 (by decide) ?_
      exact kk (L1, K1, n1, i1, j1, q1, u.1, R1) ad1 a1 β1 _ _ _ hI2.1 hG (by rw [hO.2.2.2]; exact lv_sub hl [2, 3, 4, 5, 6] rfl)
    · refine lv_aload_n hx hb dL_law_1612 rfl (lv_at hl 5 rfl) ?_
      refine lv_iconst (v := 0) hx hb dL_law_1613 (by decide) ?_
      refine g_lald hx hb hK hG hLo2 hKo2 (0) rfl (by rw [hno2]; decide) (by rw [hno2]; decide) dL_law_1614 ?_
      refine lv_iload hx hb dL_law_1615 (lv_at hl 0 rfl) ?_
      refine lv_i2l hx hb dL_law_1617 rfl ?_
      refine W.lcmp hx hb dL_law_1618 ?_
      refine lv_if_eq (tgt := 1624) hx hb dL_law_1619 (by decide) (fun c3 => ?_) (fun c3 => ?_)
      · refine lv_goto (tgt := 1911) hx hb dL_law_1624 (by decide) ?_
        exact kk (L1, K1, n1, i1, j1, q1, u.1, R1) ad1 a1 β1 _ _ _ hI2.1 hG (by rw [hO.2.2.2]; exact lv_sub hl [2, 3, 4, 5, 6] rfl)
      · exact absurd ((lg_cmp_eq _ _).mpr ((congrFun hI2.2 0).trans (hyx (by first | exact c2 | exact Classical.not_not.mp c2)))) c3
  · exact absurd rfl c1
set_option maxHeartbeats 4000000 in
set_option maxRecDepth 100000 in
/-- the law's case seen -/
theorem law_seen {p : Program} {l : Launch} {e : Env} {s : State} {m : MethodId} {below : List Frame} {meth : Method} {c : Code} {b Ls : Nat} {xs : Nat → Int32} {Q : State → Prop} (hl0 : l.stackTraces = false) (C0 : lw_At p s m meth c b Ls xs) {G : gG} (hK : g_K G s) (hX : g_X s.heap.size s) (hN : g_N s) {i9 v1 v2 v3 v4 : Int32} (hrd : rdS Ls xs i9 v1 v2 v3 v4) {cells slots : Nat} (hcs : cells + 12 ≤ room_1.cells ∧ slots + 100 ≤ room_1.slots) {L : List Nat} {K n : Nat → Nat} {rI : Nat → Nat → Int32} {rJ : Nat → Nat → Int64} {rQ : Nat → Nat → Option Nat} {fI : Nat → Nat → Int32} {fR : Nat → Nat → Option Nat} {ad : Nat → Nat} {α : aT} {bm : Nat → Nat} {β : bT} {oa : Nat} (hI : LI (L, K, n, rI, rJ, rQ, fI, fR) ad α bm β oa) {H : Heap} {locs : List Loc} (hG : gw G s.heap.size s.heap (L, K, n, rI, rJ, rQ, fI, fR) H locs) {ls : Array Slot} (hl : lv_has ls 8 [(0, .ref b), (1, .ref (ad 0)), (2, .ref (bm 0)), (3, .ref oa), (4, .int i9)]) (kk : lwK p l e s m below meth c b G bm oa i9 cells slots Q) : W p l e room_1 s m #[Value.ref b] below meth c H locs cells slots Q (F0 m 1627 ls []) := by
  obtain ⟨hx, hb, hr, hml, hown, hts, hXs, hbl, hlocks, hgv⟩ := C0
  have hown : s.vm.findClass RL = some m.cls := hown
  have hts : ∀ w ∈ wsL_law, w.before #[Value.ref b] s = true := fun w h => hts w (wsL_law_in w h)
  have hLo := hI.2.2.2.1
  have hKo := hI.2.2.2.2.1
  have hno := hI.2.2.2.2.2
  have hio := dj_o hI.1 hKo hno
  refine lv_aload_n hx hb dL_law_1627 rfl (lv_at hl 1 rfl) ?_
  refine lv_aload_n hx hb dL_law_1628 rfl (lv_at hl 0 rfl) ?_
  refine lv_iload hx hb dL_law_1629 (lv_at hl 4 rfl) ?_
  refine lv_iconst (v := 1) hx hb dL_law_1631 (by decide) ?_
  refine lv_iadd hx hb dL_law_1632 ?_
  refine g_sld hx hb hXs hbl hG hrd.1 dL_law_1633 ?_
  refine lv_aload_n hx hb dL_law_1634 rfl (lv_at hl 0 rfl) ?_
  refine lv_iload hx hb dL_law_1635 (lv_at hl 4 rfl) ?_
  refine lv_iconst (v := 2) hx hb dL_law_1637 (by decide) ?_
  refine lv_iadd hx hb dL_law_1638 ?_
  refine g_sld hx hb hXs hbl hG hrd.2.1 dL_law_1639 ?_
  refine lv_aload_n hx hb dL_law_1640 rfl (lv_at hl 0 rfl) ?_
  refine lv_iload hx hb dL_law_1641 (lv_at hl 4 rfl) ?_
  refine lv_iconst (v := 3) hx hb dL_law_1643 (by decide) ?_
  refine lv_iadd hx hb dL_law_1644 ?_
  refine g_sld hx hb hXs hbl hG hrd.2.2.1 dL_law_1645 ?_
  refine lv_aload_n hx hb dL_law_1646 rfl (lv_at hl 3 rfl) ?_
  refine g_calli (vx_runSW (As := [.ref (ad 0), .int v1, .int v2, .int v3, .ref oa]) (rest := []) ⟨hx, hb, hml, hown, hts⟩ (w_seen l G s.heap.size hl0 hI.1 hLo hKo hno hio (i := (v1)) (j := (v2)) (wh := (v3))) (vx_cwSW 5 hts gL_law_L_seen rfl rfl rfl (by decide +kernel) ⟨(Nat.le_of_ble_eq_true rfl), (Nat.le_of_ble_eq_true rfl)⟩) (g_psy hK hX hN hG) rfl rfl hl.1 rfl (lv_room (Nat.le_of_ble_eq_true rfl)) dL_law_1647 hcs) hG (fun y1 u H locs hp hG => ?_)
  obtain ⟨⟨L1, K1, n1, i1, j1, q1, f1, R1⟩, ad1, a1⟩ := u
  replace hG : gw G s.heap.size s.heap (L1, K1, n1, i1, j1, q1, f1, R1) H locs := hG
  obtain ⟨cc, rfl, hO, hP⟩ := hp
  replace hO : StpO (L, K, n, rI, rJ, rQ, fI, fR) ad α oa (L1, K1, n1, i1, j1, q1, f1, R1) ad1 a1 := hO
  obtain ⟨hM1, hLo1, hKo1, hno1⟩ := hI.w hO
  refine lv_istore (lv' := [(5, .int (nI cc)), (0, .ref b), (1, .ref (ad 0)), (2, .ref (bm 0)), (3, .ref oa), (4, .int i9)]) hx hb dL_law_1650 hl (by decide) rfl (fun ls hl => ?_)
  refine lv_aload_n hx hb dL_law_1652 rfl (lv_at hl 3 rfl) ?_
  refine lv_aload_n hx hb dL_law_1653 rfl (lv_at hl 1 rfl) ?_
  refine lv_iload hx hb dL_law_1654 (lv_at hl 5 rfl) ?_
  refine lv_iconst (v := 1) hx hb dL_law_1656 (by decide) ?_
  refine lv_iadd hx hb dL_law_1657 ?_
  refine g_sld hx hb hXs hbl hG hrd.1 dL_law_1658 ?_
  refine lv_aload_n hx hb dL_law_1659 rfl (lv_at hl 1 rfl) ?_
  refine lv_iload hx hb dL_law_1660 (lv_at hl 5 rfl) ?_
  refine lv_iconst (v := 2) hx hb dL_law_1662 (by decide) ?_
  refine lv_iadd hx hb dL_law_1663 ?_
  refine g_sld hx hb hXs hbl hG hrd.2.1 dL_law_1664 ?_
  refine lv_aload_n hx hb dL_law_1665 rfl (lv_at hl 1 rfl) ?_
  refine lv_iload hx hb dL_law_1666 (lv_at hl 5 rfl) ?_
  refine lv_iconst (v := 3) hx hb dL_law_1668 (by decide) ?_
  refine lv_iadd hx hb dL_law_1669 ?_
  refine g_sld hx hb hXs hbl hG hrd.2.2.1 dL_law_1670 ?_
  refine g_calli (va_runV (As := [.int v1, .int v2, .int v3]) (rest := []) ⟨hx, hb, hml, hown, hts⟩ (k_seen l G s.heap.size hM1 (v := (v1)) (j := (v2)) (wh := (v3))) (cwV 3 hts gL_law_X3_seen rfl rfl rfl (by decide +kernel) ⟨(Nat.le_of_ble_eq_true rfl), (Nat.le_of_ble_eq_true rfl)⟩) (g_pv3 hK hG hM1.1.2.1 hM1.1.2.2.1) rfl rfl hl.1 rfl (lv_room (Nat.le_of_ble_eq_true rfl)) dL_law_1671 hcs) hG (fun y2 u H locs hp hG => ?_)
  replace hG : gw G s.heap.size s.heap (L1, K1, n1, i1, j1, q1, u.1, R1) H locs := hG
  obtain ⟨β1, hSt, hS1, ht, hyx⟩ := ag_seen (u := u) hI.2.2.1 hI.1 hO.1 hP hp
  replace hSt : StpM (L1, K1, n1, i1, j1, q1, f1, R1) bm (L1, K1, n1, i1, j1, q1, u.1, R1) β1 := hSt
  have hI2 := hI.m hO hSt hS1
  have hM2 := hSt.1
  have hLo2 : oa ∈ L1 := hI2.1.2.2.2.1
  have hKo2 : K1 oa = 5 := hI2.1.2.2.2.2.1
  have hno2 : n1 oa = 1 := hI2.1.2.2.2.2.2
  refine lv_istore (lv' := [(6, .int y2), (5, .int (nI cc)), (0, .ref b), (1, .ref (ad 0)), (2, .ref (bm 0)), (3, .ref oa), (4, .int i9)]) hx hb dL_law_1674 hl (by decide) rfl (fun ls hl => ?_)
  refine lv_aload_n hx hb dL_law_1676 rfl (lv_at hl 4 rfl) ?_
  refine g_calli (va_runV (As := []) (rest := []) ⟨hx, hb, hml, hown, hts⟩ (k_thrown l G s.heap.size hM2) (cwV 0 hts gL_law_X3_thrown rfl rfl rfl (by decide +kernel) ⟨(Nat.le_of_ble_eq_true rfl), (Nat.le_of_ble_eq_true rfl)⟩) (g_pv3 hK hG hM2.1.2.1 hM2.1.2.2.1) rfl rfl hl.1 rfl (lv_room (Nat.le_of_ble_eq_true rfl)) dL_law_1677 hcs) hG (fun y3 _ H locs hp hG => ?_)
  obtain rfl : y3 = nI cc := hp.trans ht
  refine lv_iload hx hb dL_law_1680 (lv_at hl 1 rfl) ?_
  refine lv_icmp_eq (tgt := 1687) hx hb dL_law_1682 (by decide) (fun c1 => ?_) (fun c1 => ?_)
  · refine lv_iload hx hb dL_law_1687 (lv_at hl 1 rfl) ?_
    refine lv_if_ne (tgt := 1704) hx hb dL_law_1689 (by decide) (fun c2 => ?_) (fun c2 => ?_)
    · refine lv_goto (tgt := 1911) hx hb dL_law_1704 (by decide) ?_
      exact kk (L1, K1, n1, i1, j1, q1, u.1, R1) ad1 a1 β1 _ _ _ hI2.1 hG (by rw [hO.2.2.2]; exact lv_sub hl [2, 3, 4, 5, 6] rfl)
    · refine lv_aload_n hx hb dL_law_1692 rfl (lv_at hl 5 rfl) ?_
      refine lv_iconst (v := 0) hx hb dL_law_1693 (by decide) ?_
      refine g_lald hx hb hK hG hLo2 hKo2 (0) rfl (by rw [hno2]; decide) (by rw [hno2]; decide) dL_law_1694 ?_
      refine lv_iload hx hb dL_law_1695 (lv_at hl 0 rfl) ?_
      refine lv_i2l hx hb dL_law_1697 rfl ?_
      refine W.lcmp hx hb dL_law_1698 ?_
      refine lv_if_eq (tgt := 1704) hx hb dL_law_1699 (by decide) (fun c3 => ?_) (fun c3 => ?_)
      · refine lv_goto (tgt := 1911) hx hb dL_law_1704 (by decide) ?_
        exact kk (L1, K1, n1, i1, j1, q1, u.1, R1) ad1 a1 β1 _ _ _ hI2.1 hG (by rw [hO.2.2.2]; exact lv_sub hl [2, 3, 4, 5, 6] rfl)
      · exact absurd ((lg_cmp_eq _ _).mpr ((congrFun hI2.2 0).trans (hyx (by first | exact c2 | exact Classical.not_not.mp c2)))) c3
  · exact absurd rfl c1
