set_option maxHeartbeats 4000000 in
set_option maxRecDepth 100000 in
/-- the law's case clear -/
theorem law_clear {p : Program} {l : Launch} {e : Env} {s : State} {m : MethodId} {below : List Frame} {meth : Method} {c : Code} {b Ls : Nat} {xs : Nat → Int32} {Q : State → Prop} (hl0 : l.stackTraces = false) (C0 : lw_At p s m meth c b Ls xs) {G : gG} (hK : g_K G s) (hX : g_X s.heap.size s) (hN : g_N s) {i9 v1 v2 v3 v4 : Int32} (hrd : rdS Ls xs i9 v1 v2 v3 v4) {cells slots : Nat} (hcs : cells + 12 ≤ room_1.cells ∧ slots + 100 ≤ room_1.slots) {L : List Nat} {K n : Nat → Nat} {rI : Nat → Nat → Int32} {rJ : Nat → Nat → Int64} {rQ : Nat → Nat → Option Nat} {fI : Nat → Nat → Int32} {fR : Nat → Nat → Option Nat} {ad : Nat → Nat} {α : aT} {bm : Nat → Nat} {β : bT} {oa : Nat} (hI : LI (L, K, n, rI, rJ, rQ, fI, fR) ad α bm β oa) {H : Heap} {locs : List Loc} (hG : gw G s.heap.size s.heap (L, K, n, rI, rJ, rQ, fI, fR) H locs) {ls : Array Slot} (hl : lv_has ls 8 [(0, .ref b), (1, .ref (ad 0)), (2, .ref (bm 0)), (3, .ref oa), (4, .int i9)]) (kk : lwK p l e s m below meth c b G bm oa i9 cells slots Q) : W p l e room_1 s m #[Value.ref b] below meth c H locs cells slots Q (F0 m 584 ls []) := by
  obtain ⟨hx, hb, hr, hml, hown, hts, hXs, hbl, hlocks, hgv⟩ := C0
  have hown : s.vm.findClass RL = some m.cls := hown
  have hts : ∀ w ∈ wsL_law, w.before #[Value.ref b] s = true := fun w h => hts w (wsL_law_in w h)
  have hLo := hI.2.2.2.1
  have hKo := hI.2.2.2.2.1
  have hno := hI.2.2.2.2.2
  have hio := dj_o hI.1 hKo hno
  refine lv_aload_n hx hb dL_law_584 rfl (lv_at hl 1 rfl) ?_
  refine lv_aload_n hx hb dL_law_585 rfl (lv_at hl 0 rfl) ?_
  refine lv_iload hx hb dL_law_586 (lv_at hl 4 rfl) ?_
  refine lv_iconst (v := 1) hx hb dL_law_588 (by decide) ?_
  refine lv_iadd hx hb dL_law_589 ?_
  refine g_sld hx hb hXs hbl hG hrd.1 dL_law_590 ?_
  refine lv_aload_n hx hb dL_law_591 rfl (lv_at hl 0 rfl) ?_
  refine lv_iload hx hb dL_law_592 (lv_at hl 4 rfl) ?_
  refine lv_iconst (v := 2) hx hb dL_law_594 (by decide) ?_
  refine lv_iadd hx hb dL_law_595 ?_
  refine g_sld hx hb hXs hbl hG hrd.2.1 dL_law_596 ?_
  refine lv_aload_n hx hb dL_law_597 rfl (lv_at hl 3 rfl) ?_
  refine g_calli (vx_runSW (As := [.ref (ad 0), .int v1, .int v2, .ref oa]) (rest := []) ⟨hx, hb, hml, hown, hts⟩ (w_clear l G s.heap.size hl0 hI.1 hLo hKo hno hio (i := (v1)) (key := (v2))) (vx_cwSW 4 hts gL_law_L_clear rfl rfl rfl (by decide +kernel) ⟨(Nat.le_of_ble_eq_true rfl), (Nat.le_of_ble_eq_true rfl)⟩) (g_psy hK hX hN hG) rfl rfl hl.1 rfl (lv_room (Nat.le_of_ble_eq_true rfl)) dL_law_598 hcs) hG (fun y1 u H locs hp hG => ?_)
  obtain ⟨⟨L1, K1, n1, i1, j1, q1, f1, R1⟩, ad1, a1⟩ := u
  replace hG : gw G s.heap.size s.heap (L1, K1, n1, i1, j1, q1, f1, R1) H locs := hG
  obtain ⟨cc, rfl, hO, hP⟩ := hp
  replace hO : StpO (L, K, n, rI, rJ, rQ, fI, fR) ad α oa (L1, K1, n1, i1, j1, q1, f1, R1) ad1 a1 := hO
  obtain ⟨hM1, hLo1, hKo1, hno1⟩ := hI.w hO
  refine lv_istore (lv' := [(5, .int (nI cc)), (0, .ref b), (1, .ref (ad 0)), (2, .ref (bm 0)), (3, .ref oa), (4, .int i9)]) hx hb dL_law_601 hl (by decide) rfl (fun ls hl => ?_)
  refine lv_aload_n hx hb dL_law_603 rfl (lv_at hl 3 rfl) ?_
  refine lv_aload_n hx hb dL_law_604 rfl (lv_at hl 1 rfl) ?_
  refine lv_iload hx hb dL_law_605 (lv_at hl 5 rfl) ?_
  refine lv_iconst (v := 1) hx hb dL_law_607 (by decide) ?_
  refine lv_iadd hx hb dL_law_608 ?_
  refine g_sld hx hb hXs hbl hG hrd.1 dL_law_609 ?_
  refine lv_aload_n hx hb dL_law_610 rfl (lv_at hl 1 rfl) ?_
  refine lv_iload hx hb dL_law_611 (lv_at hl 5 rfl) ?_
  refine lv_iconst (v := 2) hx hb dL_law_613 (by decide) ?_
  refine lv_iadd hx hb dL_law_614 ?_
  refine g_sld hx hb hXs hbl hG hrd.2.1 dL_law_615 ?_
  refine g_calli (va_runV (As := [.int v1, .int v2]) (rest := []) ⟨hx, hb, hml, hown, hts⟩ (k_clear l G s.heap.size hM1 (v := (v1)) (key := (v2))) (cwV 2 hts gL_law_X3_clear rfl rfl rfl (by decide +kernel) ⟨(Nat.le_of_ble_eq_true rfl), (Nat.le_of_ble_eq_true rfl)⟩) (g_pv3 hK hG hM1.1.2.1 hM1.1.2.2.1) rfl rfl hl.1 rfl (lv_room (Nat.le_of_ble_eq_true rfl)) dL_law_616 hcs) hG (fun y2 u H locs hp hG => ?_)
  replace hG : gw G s.heap.size s.heap (L1, K1, n1, u.1.1, u.1.2.1, q1, u.1.2.2, R1) H locs := hG
  obtain ⟨β1, hSt, hS1, ht, hyx⟩ := ag_clear (u := u) hI.2.2.1 hI.1 hO.1 hP hp
  replace hSt : StpM (L1, K1, n1, i1, j1, q1, f1, R1) bm (L1, K1, n1, u.1.1, u.1.2.1, q1, u.1.2.2, R1) β1 := hSt
  have hI2 := hI.m hO hSt hS1
  have hM2 := hSt.1
  have hLo2 : oa ∈ L1 := hI2.1.2.2.2.1
  have hKo2 : K1 oa = 5 := hI2.1.2.2.2.2.1
  have hno2 : n1 oa = 1 := hI2.1.2.2.2.2.2
  refine lv_istore (lv' := [(6, .int y2), (5, .int (nI cc)), (0, .ref b), (1, .ref (ad 0)), (2, .ref (bm 0)), (3, .ref oa), (4, .int i9)]) hx hb dL_law_619 hl (by decide) rfl (fun ls hl => ?_)
  refine lv_aload_n hx hb dL_law_621 rfl (lv_at hl 4 rfl) ?_
  refine g_calli (va_runV (As := []) (rest := []) ⟨hx, hb, hml, hown, hts⟩ (k_thrown l G s.heap.size hM2) (cwV 0 hts gL_law_X3_thrown rfl rfl rfl (by decide +kernel) ⟨(Nat.le_of_ble_eq_true rfl), (Nat.le_of_ble_eq_true rfl)⟩) (g_pv3 hK hG hM2.1.2.1 hM2.1.2.2.1) rfl rfl hl.1 rfl (lv_room (Nat.le_of_ble_eq_true rfl)) dL_law_622 hcs) hG (fun y3 _ H locs hp hG => ?_)
  obtain rfl : y3 = nI cc := hp.trans ht
  refine lv_iload hx hb dL_law_625 (lv_at hl 1 rfl) ?_
  refine lv_icmp_eq (tgt := 632) hx hb dL_law_627 (by decide) (fun c1 => ?_) (fun c1 => ?_)
  · refine lv_iload hx hb dL_law_632 (lv_at hl 1 rfl) ?_
    refine lv_if_ne (tgt := 649) hx hb dL_law_634 (by decide) (fun c2 => ?_) (fun c2 => ?_)
    · refine lv_goto (tgt := 1911) hx hb dL_law_649 (by decide) ?_
      exact kk (L1, K1, n1, u.1.1, u.1.2.1, q1, u.1.2.2, R1) ad1 a1 β1 _ _ _ hI2.1 hG (by rw [hO.2.2.2]; exact lv_sub hl [2, 3, 4, 5, 6] rfl)
    · refine lv_aload_n hx hb dL_law_637 rfl (lv_at hl 5 rfl) ?_
      refine lv_iconst (v := 0) hx hb dL_law_638 (by decide) ?_
      refine g_lald hx hb hK hG hLo2 hKo2 (0) rfl (by rw [hno2]; decide) (by rw [hno2]; decide) dL_law_639 ?_
      refine lv_iload hx hb dL_law_640 (lv_at hl 0 rfl) ?_
      refine lv_i2l hx hb dL_law_642 rfl ?_
      refine W.lcmp hx hb dL_law_643 ?_
      refine lv_if_eq (tgt := 649) hx hb dL_law_644 (by decide) (fun c3 => ?_) (fun c3 => ?_)
      · refine lv_goto (tgt := 1911) hx hb dL_law_649 (by decide) ?_
        exact kk (L1, K1, n1, u.1.1, u.1.2.1, q1, u.1.2.2, R1) ad1 a1 β1 _ _ _ hI2.1 hG (by rw [hO.2.2.2]; exact lv_sub hl [2, 3, 4, 5, 6] rfl)
      · exact absurd ((lg_cmp_eq _ _).mpr ((congrFun hI2.2 0).trans (hyx (by first | exact c2 | exact Classical.not_not.mp c2)))) c3
  · exact absurd rfl c1
set_option maxHeartbeats 4000000 in
set_option maxRecDepth 100000 in
/-- the law's case twice -/
theorem law_twice {p : Program} {l : Launch} {e : Env} {s : State} {m : MethodId} {below : List Frame} {meth : Method} {c : Code} {b Ls : Nat} {xs : Nat → Int32} {Q : State → Prop} (hl0 : l.stackTraces = false) (C0 : lw_At p s m meth c b Ls xs) {G : gG} (hK : g_K G s) (hX : g_X s.heap.size s) (hN : g_N s) {i9 v1 v2 v3 v4 : Int32} (hrd : rdS Ls xs i9 v1 v2 v3 v4) {cells slots : Nat} (hcs : cells + 12 ≤ room_1.cells ∧ slots + 100 ≤ room_1.slots) {L : List Nat} {K n : Nat → Nat} {rI : Nat → Nat → Int32} {rJ : Nat → Nat → Int64} {rQ : Nat → Nat → Option Nat} {fI : Nat → Nat → Int32} {fR : Nat → Nat → Option Nat} {ad : Nat → Nat} {α : aT} {bm : Nat → Nat} {β : bT} {oa : Nat} (hI : LI (L, K, n, rI, rJ, rQ, fI, fR) ad α bm β oa) {H : Heap} {locs : List Loc} (hG : gw G s.heap.size s.heap (L, K, n, rI, rJ, rQ, fI, fR) H locs) {ls : Array Slot} (hl : lv_has ls 8 [(0, .ref b), (1, .ref (ad 0)), (2, .ref (bm 0)), (3, .ref oa), (4, .int i9)]) (kk : lwK p l e s m below meth c b G bm oa i9 cells slots Q) : W p l e room_1 s m #[Value.ref b] below meth c H locs cells slots Q (F0 m 652 ls []) := by
  obtain ⟨hx, hb, hr, hml, hown, hts, hXs, hbl, hlocks, hgv⟩ := C0
  have hown : s.vm.findClass RL = some m.cls := hown
  have hts : ∀ w ∈ wsL_law, w.before #[Value.ref b] s = true := fun w h => hts w (wsL_law_in w h)
  have hLo := hI.2.2.2.1
  have hKo := hI.2.2.2.2.1
  have hno := hI.2.2.2.2.2
  have hio := dj_o hI.1 hKo hno
  refine lv_aload_n hx hb dL_law_652 rfl (lv_at hl 1 rfl) ?_
  refine lv_aload_n hx hb dL_law_653 rfl (lv_at hl 0 rfl) ?_
  refine lv_iload hx hb dL_law_654 (lv_at hl 4 rfl) ?_
  refine lv_iconst (v := 1) hx hb dL_law_656 (by decide) ?_
  refine lv_iadd hx hb dL_law_657 ?_
  refine g_sld hx hb hXs hbl hG hrd.1 dL_law_658 ?_
  refine lv_aload_n hx hb dL_law_659 rfl (lv_at hl 0 rfl) ?_
  refine lv_iload hx hb dL_law_660 (lv_at hl 4 rfl) ?_
  refine lv_iconst (v := 2) hx hb dL_law_662 (by decide) ?_
  refine lv_iadd hx hb dL_law_663 ?_
  refine g_sld hx hb hXs hbl hG hrd.2.1 dL_law_664 ?_
  refine lv_aload_n hx hb dL_law_665 rfl (lv_at hl 0 rfl) ?_
  refine lv_iload hx hb dL_law_666 (lv_at hl 4 rfl) ?_
  refine lv_iconst (v := 3) hx hb dL_law_668 (by decide) ?_
  refine lv_iadd hx hb dL_law_669 ?_
  refine g_sld hx hb hXs hbl hG hrd.2.2.1 dL_law_670 ?_
  refine lv_if_eq (tgt := 678) hx hb dL_law_671 (by decide) (fun on1 => ?_) (fun on1 => ?_)
  · refine lv_iconst (v := 0) hx hb dL_law_678 (by decide) ?_
    refine lv_aload_n hx hb dL_law_679 rfl (lv_at hl 3 rfl) ?_
    refine g_calli (vx_runSW (As := [.ref (ad 0), .int v1, .int v2, .int (bi false), .ref oa]) (rest := []) ⟨hx, hb, hml, hown, hts⟩ (w_twice l G s.heap.size hl0 hI.1 hLo hKo hno hio (i := (v1)) (el := (v2)) (on := false)) (vx_cwSW 5 hts gL_law_L_twice rfl rfl rfl (by decide +kernel) ⟨(Nat.le_of_ble_eq_true rfl), (Nat.le_of_ble_eq_true rfl)⟩) (g_psy hK hX hN hG) rfl rfl hl.1 rfl (lv_room (Nat.le_of_ble_eq_true rfl)) dL_law_680 hcs) hG (fun y1 u H locs hp hG => ?_)
    obtain ⟨⟨L1, K1, n1, i1, j1, q1, f1, R1⟩, ad1, a1⟩ := u
    replace hG : gw G s.heap.size s.heap (L1, K1, n1, i1, j1, q1, f1, R1) H locs := hG
    obtain ⟨cc, rfl, hO, hP⟩ := hp
    replace hO : StpO (L, K, n, rI, rJ, rQ, fI, fR) ad α oa (L1, K1, n1, i1, j1, q1, f1, R1) ad1 a1 := hO
    obtain ⟨hM1, hLo1, hKo1, hno1⟩ := hI.w hO
    refine lv_istore (lv' := [(5, .int (nI cc)), (0, .ref b), (1, .ref (ad 0)), (2, .ref (bm 0)), (3, .ref oa), (4, .int i9)]) hx hb dL_law_683 hl (by decide) rfl (fun ls hl => ?_)
    refine lv_aload_n hx hb dL_law_685 rfl (lv_at hl 3 rfl) ?_
    refine lv_aload_n hx hb dL_law_686 rfl (lv_at hl 1 rfl) ?_
    refine lv_iload hx hb dL_law_687 (lv_at hl 5 rfl) ?_
    refine lv_iconst (v := 1) hx hb dL_law_689 (by decide) ?_
    refine lv_iadd hx hb dL_law_690 ?_
    refine g_sld hx hb hXs hbl hG hrd.1 dL_law_691 ?_
    refine lv_aload_n hx hb dL_law_692 rfl (lv_at hl 1 rfl) ?_
    refine lv_iload hx hb dL_law_693 (lv_at hl 5 rfl) ?_
    refine lv_iconst (v := 2) hx hb dL_law_695 (by decide) ?_
    refine lv_iadd hx hb dL_law_696 ?_
    refine g_sld hx hb hXs hbl hG hrd.2.1 dL_law_697 ?_
    refine lv_aload_n hx hb dL_law_698 rfl (lv_at hl 1 rfl) ?_
    refine lv_iload hx hb dL_law_699 (lv_at hl 5 rfl) ?_
    refine lv_iconst (v := 3) hx hb dL_law_701 (by decide) ?_
    refine lv_iadd hx hb dL_law_702 ?_
    refine g_sld hx hb hXs hbl hG hrd.2.2.1 dL_law_703 ?_
    refine lv_if_eq (tgt := 711) hx hb dL_law_704 (by decide) (fun on2 => ?_) (fun on2 => ?_)
    · refine lv_iconst (v := 0) hx hb dL_law_711 (by decide) ?_
      refine g_calli (va_runV (As := [.int v1, .int v2, .int (bi false)]) (rest := []) ⟨hx, hb, hml, hown, hts⟩ (k_twice l G s.heap.size hM1 (v := (v1)) (el := (v2)) (on := false)) (cwV 3 hts gL_law_X3_twice rfl rfl rfl (by decide +kernel) ⟨(Nat.le_of_ble_eq_true rfl), (Nat.le_of_ble_eq_true rfl)⟩) (g_pv3 hK hG hM1.1.2.1 hM1.1.2.2.1) rfl rfl hl.1 rfl (lv_room (Nat.le_of_ble_eq_true rfl)) dL_law_712 hcs) hG (fun y2 u H locs hp hG => ?_)
      replace hG : gw G s.heap.size s.heap (L1, K1, n1, u.1.1, u.1.2.1, q1, u.1.2.2, R1) H locs := hG
      obtain ⟨β1, hSt, hS1, ht, hyx⟩ := ag_twice (u := u) hI.2.2.1 hI.1 hO.1 hP hp
      replace hSt : StpM (L1, K1, n1, i1, j1, q1, f1, R1) bm (L1, K1, n1, u.1.1, u.1.2.1, q1, u.1.2.2, R1) β1 := hSt
      have hI2 := hI.m hO hSt hS1
      have hM2 := hSt.1
      have hLo2 : oa ∈ L1 := hI2.1.2.2.2.1
      have hKo2 : K1 oa = 5 := hI2.1.2.2.2.2.1
      have hno2 : n1 oa = 1 := hI2.1.2.2.2.2.2
      refine lv_istore (lv' := [(6, .int y2), (5, .int (nI cc)), (0, .ref b), (1, .ref (ad 0)), (2, .ref (bm 0)), (3, .ref oa), (4, .int i9)]) hx hb dL_law_715 hl (by decide) rfl (fun ls hl => ?_)
      refine lv_aload_n hx hb dL_law_717 rfl (lv_at hl 4 rfl) ?_
      refine g_calli (va_runV (As := []) (rest := []) ⟨hx, hb, hml, hown, hts⟩ (k_thrown l G s.heap.size hM2) (cwV 0 hts gL_law_X3_thrown rfl rfl rfl (by decide +kernel) ⟨(Nat.le_of_ble_eq_true rfl), (Nat.le_of_ble_eq_true rfl)⟩) (g_pv3 hK hG hM2.1.2.1 hM2.1.2.2.1) rfl rfl hl.1 rfl (lv_room (Nat.le_of_ble_eq_true rfl)) dL_law_718 hcs) hG (fun y3 _ H locs hp hG => ?_)
      obtain rfl : y3 = nI cc := hp.trans ht
      refine lv_iload hx hb dL_law_721 (lv_at hl 1 rfl) ?_
      refine lv_icmp_eq (tgt := 728) hx hb dL_law_723 (by decide) (fun c1 => ?_) (fun c1 => ?_)
      · refine lv_iload hx hb dL_law_728 (lv_at hl 1 rfl) ?_
        refine lv_if_ne (tgt := 745) hx hb dL_law_730 (by decide) (fun c2 => ?_) (fun c2 => ?_)
        · refine lv_goto (tgt := 1911) hx hb dL_law_745 (by decide) ?_
          exact kk (L1, K1, n1, u.1.1, u.1.2.1, q1, u.1.2.2, R1) ad1 a1 β1 _ _ _ hI2.1 hG (by rw [hO.2.2.2]; exact lv_sub hl [2, 3, 4, 5, 6] rfl)
        · refine lv_aload_n hx hb dL_law_733 rfl (lv_at hl 5 rfl) ?_
          refine lv_iconst (v := 0) hx hb dL_law_734 (by decide) ?_
          refine g_lald hx hb hK hG hLo2 hKo2 (0) rfl (by rw [hno2]; decide) (by rw [hno2]; decide) dL_law_735 ?_
          refine lv_iload hx hb dL_law_736 (lv_at hl 0 rfl) ?_
          refine lv_i2l hx hb dL_law_738 rfl ?_
          refine W.lcmp hx hb dL_law_739 ?_
          refine lv_if_eq (tgt := 745) hx hb dL_law_740 (by decide) (fun c3 => ?_) (fun c3 => ?_)
          · refine lv_goto (tgt := 1911) hx hb dL_law_745 (by decide) ?_
            exact kk (L1, K1, n1, u.1.1, u.1.2.1, q1, u.1.2.2, R1) ad1 a1 β1 _ _ _ hI2.1 hG (by rw [hO.2.2.2]; exact lv_sub hl [2, 3, 4, 5, 6] rfl)
          · exact absurd ((lg_cmp_eq _ _).mpr ((congrFun hI2.2 0).trans (hyx (by first | exact c2 | exact Classical.not_not.mp c2)))) c3
      · exact absurd rfl c1
    · exact absurd on1 on2
  · refine lv_iconst (v := 1) hx hb dL_law_674 (by decide) ?_
    refine lv_goto (tgt := 679) hx hb dL_law_675 (by decide) ?_
    refine lv_aload_n hx hb dL_law_679 rfl (lv_at hl 3 rfl) ?_
    refine g_calli (vx_runSW (As := [.ref (ad 0), .int v1, .int v2, .int (bi true), .ref oa]) (rest := []) ⟨hx, hb, hml, hown, hts⟩ (w_twice l G s.heap.size hl0 hI.1 hLo hKo hno hio (i := (v1)) (el := (v2)) (on := true)) (vx_cwSW 5 hts gL_law_L_twice rfl rfl rfl (by decide +kernel) ⟨(Nat.le_of_ble_eq_true rfl), (Nat.le_of_ble_eq_true rfl)⟩) (g_psy hK hX hN hG) rfl rfl hl.1 rfl (lv_room (Nat.le_of_ble_eq_true rfl)) dL_law_680 hcs) hG (fun y1 u H locs hp hG => ?_)
    obtain ⟨⟨L1, K1, n1, i1, j1, q1, f1, R1⟩, ad1, a1⟩ := u
    replace hG : gw G s.heap.size s.heap (L1, K1, n1, i1, j1, q1, f1, R1) H locs := hG
    obtain ⟨cc, rfl, hO, hP⟩ := hp
    replace hO : StpO (L, K, n, rI, rJ, rQ, fI, fR) ad α oa (L1, K1, n1, i1, j1, q1, f1, R1) ad1 a1 := hO
    obtain ⟨hM1, hLo1, hKo1, hno1⟩ := hI.w hO
    refine lv_istore (lv' := [(5, .int (nI cc)), (0, .ref b), (1, .ref (ad 0)), (2, .ref (bm 0)), (3, .ref oa), (4, .int i9)]) hx hb dL_law_683 hl (by decide) rfl (fun ls hl => ?_)
    refine lv_aload_n hx hb dL_law_685 rfl (lv_at hl 3 rfl) ?_
    refine lv_aload_n hx hb dL_law_686 rfl (lv_at hl 1 rfl) ?_
    refine lv_iload hx hb dL_law_687 (lv_at hl 5 rfl) ?_
    refine lv_iconst (v := 1) hx hb dL_law_689 (by decide) ?_
    refine lv_iadd hx hb dL_law_690 ?_
    refine g_sld hx hb hXs hbl hG hrd.1 dL_law_691 ?_
    refine lv_aload_n hx hb dL_law_692 rfl (lv_at hl 1 rfl) ?_
    refine lv_iload hx hb dL_law_693 (lv_at hl 5 rfl) ?_
    refine lv_iconst (v := 2) hx hb dL_law_695 (by decide) ?_
    refine lv_iadd hx hb dL_law_696 ?_
    refine g_sld hx hb hXs hbl hG hrd.2.1 dL_law_697 ?_
    refine lv_aload_n hx hb dL_law_698 rfl (lv_at hl 1 rfl) ?_
    refine lv_iload hx hb dL_law_699 (lv_at hl 5 rfl) ?_
    refine lv_iconst (v := 3) hx hb dL_law_701 (by decide) ?_
    refine lv_iadd hx hb dL_law_702 ?_
    refine g_sld hx hb hXs hbl hG hrd.2.2.1 dL_law_703 ?_
    refine lv_if_eq (tgt := 711) hx hb dL_law_704 (by decide) (fun on2 => ?_) (fun on2 => ?_)
    · exact absurd on2 on1
    · refine lv_iconst (v := 1) hx hb dL_law_707 (by decide) ?_
      refine lv_goto (tgt := 712) hx hb dL_law_708 (by decide) ?_
      refine g_calli (va_runV (As := [.int v1, .int v2, .int (bi true)]) (rest := []) ⟨hx, hb, hml, hown, hts⟩ (k_twice l G s.heap.size hM1 (v := (v1)) (el := (v2)) (on := true)) (cwV 3 hts gL_law_X3_twice rfl rfl rfl (by decide +kernel) ⟨(Nat.le_of_ble_eq_true rfl), (Nat.le_of_ble_eq_true rfl)⟩) (g_pv3 hK hG hM1.1.2.1 hM1.1.2.2.1) rfl rfl hl.1 rfl (lv_room (Nat.le_of_ble_eq_true rfl)) dL_law_712 hcs) hG (fun y2 u H locs hp hG => ?_)
      replace hG : gw G s.heap.size s.heap (L1, K1, n1, u.1.1, u.1.2.1, q1, u.1.2.2, R1) H locs := hG
      obtain ⟨β1, hSt, hS1, ht, hyx⟩ := ag_twice (u := u) hI.2.2.1 hI.1 hO.1 hP hp
      replace hSt : StpM (L1, K1, n1, i1, j1, q1, f1, R1) bm (L1, K1, n1, u.1.1, u.1.2.1, q1, u.1.2.2, R1) β1 := hSt
      have hI2 := hI.m hO hSt hS1
      have hM2 := hSt.1
      have hLo2 : oa ∈ L1 := hI2.1.2.2.2.1
      have hKo2 : K1 oa = 5 := hI2.1.2.2.2.2.1
      have hno2 : n1 oa = 1 := hI2.1.2.2.2.2.2
      refine lv_istore (lv' := [(6, .int y2), (5, .int (nI cc)), (0, .ref b), (1, .ref (ad 0)), (2, .ref (bm 0)), (3, .ref oa), (4, .int i9)]) hx hb dL_law_715 hl (by decide) rfl (fun ls hl => ?_)
      refine lv_aload_n hx hb dL_law_717 rfl (lv_at hl 4 rfl) ?_
      refine g_calli (va_runV (As := []) (rest := []) ⟨hx, hb, hml, hown, hts⟩ (k_thrown l G s.heap.size hM2) (cwV 0 hts gL_law_X3_thrown rfl rfl rfl (by decide +kernel) ⟨(Nat.le_of_ble_eq_true rfl), (Nat.le_of_ble_eq_true rfl)⟩) (g_pv3 hK hG hM2.1.2.1 hM2.1.2.2.1) rfl rfl hl.1 rfl (lv_room (Nat.le_of_ble_eq_true rfl)) dL_law_718 hcs) hG (fun y3 _ H locs hp hG => ?_)
      obtain rfl : y3 = nI cc := hp.trans ht
      refine lv_iload hx hb dL_law_721 (lv_at hl 1 rfl) ?_
      refine lv_icmp_eq (tgt := 728) hx hb dL_law_723 (by decide) (fun c1 => ?_) (fun c1 => ?_)
      · refine lv_iload hx hb dL_law_728 (lv_at hl 1 rfl) ?_
        refine lv_if_ne (tgt := 745) hx hb dL_law_730 (by decide) (fun c2 => ?_) (fun c2 => ?_)
        · refine lv_goto (tgt := 1911) hx hb dL_law_745 (by decide) ?_
          exact kk (L1, K1, n1, u.1.1, u.1.2.1, q1, u.1.2.2, R1) ad1 a1 β1 _ _ _ hI2.1 hG (by rw [hO.2.2.2]; exact lv_sub hl [2, 3, 4, 5, 6] rfl)
        · refine lv_aload_n hx hb dL_law_733 rfl (lv_at hl 5 rfl) ?_
          refine lv_iconst (v := 0) hx hb dL_law_734 (by decide) ?_
          refine g_lald hx hb hK hG hLo2 hKo2 (0) rfl (by rw [hno2]; decide) (by rw [hno2]; decide) dL_law_735 ?_
          refine lv_iload hx hb dL_law_736 (lv_at hl 0 rfl) ?_
          refine lv_i2l hx hb dL_law_738 rfl ?_
          refine W.lcmp hx hb dL_law_739 ?_
          refine lv_if_eq (tgt := 745) hx hb dL_law_740 (by decide) (fun c3 => ?_) (fun c3 => ?_)
          · refine lv_goto (tgt := 1911) hx hb dL_law_745 (by decide) ?_
            exact kk (L1, K1, n1, u.1.1, u.1.2.1, q1, u.1.2.2, R1) ad1 a1 β1 _ _ _ hI2.1 hG (by rw [hO.2.2.2]; exact lv_sub hl [2, 3, 4, 5, 6] rfl)
          · exact absurd ((lg_cmp_eq _ _).mpr ((congrFun hI2.2 0).trans (hyx (by first | exact c2 | exact Classical.not_not.mp c2)))) c3
      · exact absurd rfl c1
set_option maxHeartbeats 4000000 in
set_option maxRecDepth 100000 in
/-- the law's case timed -/
theorem law_timed {p : Program} {l : Launch} {e : Env} {s : State} {m : MethodId} {below : List Frame} {meth : Method} {c : Code} {b Ls : Nat} {xs : Nat → Int32} {Q : State → Prop} (hl0 : l.stackTraces = false) (C0 : lw_At p s m meth c b Ls xs) {G : gG} (hK : g_K G s) (hX : g_X s.heap.size s) (hN : g_N s) {i9 v1 v2 v3 v4 : Int32} (hrd : rdS Ls xs i9 v1 v2 v3 v4) {cells slots : Nat} (hcs : cells + 12 ≤ room_1.cells ∧ slots + 100 ≤ room_1.slots) {L : List Nat} {K n : Nat → Nat} {rI : Nat → Nat → Int32} {rJ : Nat → Nat → Int64} {rQ : Nat → Nat → Option Nat} {fI : Nat → Nat → Int32} {fR : Nat → Nat → Option Nat} {ad : Nat → Nat} {α : aT} {bm : Nat → Nat} {β : bT} {oa : Nat} (hI : LI (L, K, n, rI, rJ, rQ, fI, fR) ad α bm β oa) {H : Heap} {locs : List Loc} (hG : gw G s.heap.size s.heap (L, K, n, rI, rJ, rQ, fI, fR) H locs) {ls : Array Slot} (hl : lv_has ls 8 [(0, .ref b), (1, .ref (ad 0)), (2, .ref (bm 0)), (3, .ref oa), (4, .int i9)]) (kk : lwK p l e s m below meth c b G bm oa i9 cells slots Q) : W p l e room_1 s m #[Value.ref b] below meth c H locs cells slots Q (F0 m 748 ls []) := by
  obtain ⟨hx, hb, hr, hml, hown, hts, hXs, hbl, hlocks, hgv⟩ := C0
  have hown : s.vm.findClass RL = some m.cls := hown
  have hts : ∀ w ∈ wsL_law, w.before #[Value.ref b] s = true := fun w h => hts w (wsL_law_in w h)
  have hLo := hI.2.2.2.1
  have hKo := hI.2.2.2.2.1
  have hno := hI.2.2.2.2.2
  have hio := dj_o hI.1 hKo hno
  refine lv_aload_n hx hb dL_law_748 rfl (lv_at hl 1 rfl) ?_
  refine lv_aload_n hx hb dL_law_749 rfl (lv_at hl 0 rfl) ?_
  refine lv_iload hx hb dL_law_750 (lv_at hl 4 rfl) ?_
  refine lv_iconst (v := 1) hx hb dL_law_752 (by decide) ?_
  refine lv_iadd hx hb dL_law_753 ?_
  refine g_sld hx hb hXs hbl hG hrd.1 dL_law_754 ?_
  refine lv_aload_n hx hb dL_law_755 rfl (lv_at hl 0 rfl) ?_
  refine lv_iload hx hb dL_law_756 (lv_at hl 4 rfl) ?_
  refine lv_iconst (v := 2) hx hb dL_law_758 (by decide) ?_
  refine lv_iadd hx hb dL_law_759 ?_
  refine g_sld hx hb hXs hbl hG hrd.2.1 dL_law_760 ?_
  refine lv_aload_n hx hb dL_law_761 rfl (lv_at hl 0 rfl) ?_
  refine lv_iload hx hb dL_law_762 (lv_at hl 4 rfl) ?_
  refine lv_iconst (v := 3) hx hb dL_law_764 (by decide) ?_
  refine lv_iadd hx hb dL_law_765 ?_
  refine g_sld hx hb hXs hbl hG hrd.2.2.1 dL_law_766 ?_
  refine lv_aload_n hx hb dL_law_767 rfl (lv_at hl 0 rfl) ?_
  refine lv_iload hx hb dL_law_768 (lv_at hl 4 rfl) ?_
  refine lv_iconst (v := 4) hx hb dL_law_770 (by decide) ?_
  refine lv_iadd hx hb dL_law_771 ?_
  refine g_sld hx hb hXs hbl hG hrd.2.2.2 dL_law_772 ?_
  refine lv_if_eq (tgt := 780) hx hb dL_law_773 (by decide) (fun on1 => ?_) (fun on1 => ?_)
  · refine lv_iconst (v := 0) hx hb dL_law_780 (by decide) ?_
    refine lv_aload_n hx hb dL_law_781 rfl (lv_at hl 3 rfl) ?_
    refine g_calli (vx_runSW (As := [.ref (ad 0), .int v1, .int v2, .int v3, .int (bi false), .ref oa]) (rest := []) ⟨hx, hb, hml, hown, hts⟩ (w_timed l G s.heap.size hl0 hI.1 hLo hKo hno hio (i := (v1)) (el := (v2)) (tm := (v3)) (on := false)) (vx_cwSW 6 hts gL_law_L_timed rfl rfl rfl (by decide +kernel) ⟨(Nat.le_of_ble_eq_true rfl), (Nat.le_of_ble_eq_true rfl)⟩) (g_psy hK hX hN hG) rfl rfl hl.1 rfl (lv_room (Nat.le_of_ble_eq_true rfl)) dL_law_782 hcs) hG (fun y1 u H locs hp hG => ?_)
    obtain ⟨⟨L1, K1, n1, i1, j1, q1, f1, R1⟩, ad1, a1⟩ := u
    replace hG : gw G s.heap.size s.heap (L1, K1, n1, i1, j1, q1, f1, R1) H locs := hG
    obtain ⟨cc, rfl, hO, hP⟩ := hp
    replace hO : StpO (L, K, n, rI, rJ, rQ, fI, fR) ad α oa (L1, K1, n1, i1, j1, q1, f1, R1) ad1 a1 := hO
    obtain ⟨hM1, hLo1, hKo1, hno1⟩ := hI.w hO
    refine lv_istore (lv' := [(5, .int (nI cc)), (0, .ref b), (1, .ref (ad 0)), (2, .ref (bm 0)), (3, .ref oa), (4, .int i9)]) hx hb dL_law_785 hl (by decide) rfl (fun ls hl => ?_)
    refine lv_aload_n hx hb dL_law_787 rfl (lv_at hl 3 rfl) ?_
    refine lv_aload_n hx hb dL_law_788 rfl (lv_at hl 1 rfl) ?_
    refine lv_iload hx hb dL_law_789 (lv_at hl 5 rfl) ?_
    refine lv_iconst (v := 1) hx hb dL_law_791 (by decide) ?_
    refine lv_iadd hx hb dL_law_792 ?_
    refine g_sld hx hb hXs hbl hG hrd.1 dL_law_793 ?_
    refine lv_aload_n hx hb dL_law_794 rfl (lv_at hl 1 rfl) ?_
    refine lv_iload hx hb dL_law_795 (lv_at hl 5 rfl) ?_
    refine lv_iconst (v := 2) hx hb dL_law_797 (by decide) ?_
    refine lv_iadd hx hb dL_law_798 ?_
    refine g_sld hx hb hXs hbl hG hrd.2.1 dL_law_799 ?_
    refine lv_aload_n hx hb dL_law_800 rfl (lv_at hl 1 rfl) ?_
    refine lv_iload hx hb dL_law_801 (lv_at hl 5 rfl) ?_
    refine lv_iconst (v := 3) hx hb dL_law_803 (by decide) ?_
    refine lv_iadd hx hb dL_law_804 ?_
    refine g_sld hx hb hXs hbl hG hrd.2.2.1 dL_law_805 ?_
    refine lv_aload_n hx hb dL_law_806 rfl (lv_at hl 1 rfl) ?_
    refine lv_iload hx hb dL_law_807 (lv_at hl 5 rfl) ?_
    refine lv_iconst (v := 4) hx hb dL_law_809 (by decide) ?_
    refine lv_iadd hx hb dL_law_810 ?_
    refine g_sld hx hb hXs hbl hG hrd.2.2.2 dL_law_811 ?_
    refine lv_if_eq (tgt := 819) hx hb dL_law_812 (by decide) (fun on2 => ?_) (fun on2 => ?_)
    · refine lv_iconst (v := 0) hx hb dL_law_819 (by decide) ?_
      refine g_calli (va_runV (As := [.int v1, .int v2, .int v3, .int (bi false)]) (rest := []) ⟨hx, hb, hml, hown, hts⟩ (k_timed l G s.heap.size hM1 (v := (v1)) (el := (v2)) (tm := (v3)) (on := false)) (cwV 4 hts gL_law_X3_timed rfl rfl rfl (by decide +kernel) ⟨(Nat.le_of_ble_eq_true rfl), (Nat.le_of_ble_eq_true rfl)⟩) (g_pv3 hK hG hM1.1.2.1 hM1.1.2.2.1) rfl rfl hl.1 rfl (lv_room (Nat.le_of_ble_eq_true rfl)) dL_law_820 hcs) hG (fun y2 u H locs hp hG => ?_)
      replace hG : gw G s.heap.size s.heap (L1, K1, n1, u.1.1, u.1.2.1, q1, u.1.2.2, R1) H locs := hG
      obtain ⟨β1, hSt, hS1, ht, hyx⟩ := ag_timed (u := u) hI.2.2.1 hI.1 hO.1 hP hp
      replace hSt : StpM (L1, K1, n1, i1, j1, q1, f1, R1) bm (L1, K1, n1, u.1.1, u.1.2.1, q1, u.1.2.2, R1) β1 := hSt
      have hI2 := hI.m hO hSt hS1
      have hM2 := hSt.1
      have hLo2 : oa ∈ L1 := hI2.1.2.2.2.1
      have hKo2 : K1 oa = 5 := hI2.1.2.2.2.2.1
      have hno2 : n1 oa = 1 := hI2.1.2.2.2.2.2
      refine lv_istore (lv' := [(6, .int y2), (5, .int (nI cc)), (0, .ref b), (1, .ref (ad 0)), (2, .ref (bm 0)), (3, .ref oa), (4, .int i9)]) hx hb dL_law_823 hl (by decide) rfl (fun ls hl => ?_)
      refine lv_aload_n hx hb dL_law_825 rfl (lv_at hl 4 rfl) ?_
      refine g_calli (va_runV (As := []) (rest := []) ⟨hx, hb, hml, hown, hts⟩ (k_thrown l G s.heap.size hM2) (cwV 0 hts gL_law_X3_thrown rfl rfl rfl (by decide +kernel) ⟨(Nat.le_of_ble_eq_true rfl), (Nat.le_of_ble_eq_true rfl)⟩) (g_pv3 hK hG hM2.1.2.1 hM2.1.2.2.1) rfl rfl hl.1 rfl (lv_room (Nat.le_of_ble_eq_true rfl)) dL_law_826 hcs) hG (fun y3 _ H locs hp hG => ?_)
      obtain rfl : y3 = nI cc := hp.trans ht
      refine lv_iload hx hb dL_law_829 (lv_at hl 1 rfl) ?_
      refine lv_icmp_eq (tgt := 836) hx hb dL_law_831 (by decide) (fun c1 => ?_) (fun c1 => ?_)
      · refine lv_iload hx hb dL_law_836 (lv_at hl 1 rfl) ?_
        refine lv_if_ne (tgt := 853) hx hb dL_law_838 (by decide) (fun c2 => ?_) (fun c2 => ?_)
        · refine lv_goto (tgt := 1911) hx hb dL_law_853 (by decide) ?_
          exact kk (L1, K1, n1, u.1.1, u.1.2.1, q1, u.1.2.2, R1) ad1 a1 β1 _ _ _ hI2.1 hG (by rw [hO.2.2.2]; exact lv_sub hl [2, 3, 4, 5, 6] rfl)
        · refine lv_aload_n hx hb dL_law_841 rfl (lv_at hl 5 rfl) ?_
          refine lv_iconst (v := 0) hx hb dL_law_842 (by decide) ?_
          refine g_lald hx hb hK hG hLo2 hKo2 (0) rfl (by rw [hno2]; decide) (by rw [hno2]; decide) dL_law_843 ?_
          refine lv_iload hx hb dL_law_844 (lv_at hl 0 rfl) ?_
          refine lv_i2l hx hb dL_law_846 rfl ?_
          refine W.lcmp hx hb dL_law_847 ?_
          refine lv_if_eq (tgt := 853) hx hb dL_law_848 (by decide) (fun c3 => ?_) (fun c3 => ?_)
          · refine lv_goto (tgt := 1911) hx hb dL_law_853 (by decide) ?_
            exact kk (L1, K1, n1, u.1.1, u.1.2.1, q1, u.1.2.2, R1) ad1 a1 β1 _ _ _ hI2.1 hG (by rw [hO.2.2.2]; exact lv_sub hl [2, 3, 4, 5, 6] rfl)
          · exact absurd ((lg_cmp_eq _ _).mpr ((congrFun hI2.2 0).trans (hyx (by first | exact c2 | exact Classical.not_not.mp c2)))) c3
      · exact absurd rfl c1
    · exact absurd on1 on2
  · refine lv_iconst (v := 1) hx hb dL_law_776 (by decide) ?_
    refine lv_goto (tgt := 781) hx hb dL_law_777 (by decide) ?_
    refine lv_aload_n hx hb dL_law_781 rfl (lv_at hl 3 rfl) ?_
    refine g_calli (vx_runSW (As := [.ref (ad 0), .int v1, .int v2, .int v3, .int (bi true), .ref oa]) (rest := []) ⟨hx, hb, hml, hown, hts⟩ (w_timed l G s.heap.size hl0 hI.1 hLo hKo hno hio (i := (v1)) (el := (v2)) (tm := (v3)) (on := true)) (vx_cwSW 6 hts gL_law_L_timed rfl rfl rfl (by decide +kernel) ⟨(Nat.le_of_ble_eq_true rfl), (Nat.le_of_ble_eq_true rfl)⟩) (g_psy hK hX hN hG) rfl rfl hl.1 rfl (lv_room (Nat.le_of_ble_eq_true rfl)) dL_law_782 hcs) hG (fun y1 u H locs hp hG => ?_)
    obtain ⟨⟨L1, K1, n1, i1, j1, q1, f1, R1⟩, ad1, a1⟩ := u
    replace hG : gw G s.heap.size s.heap (L1, K1, n1, i1, j1, q1, f1, R1) H locs := hG
    obtain ⟨cc, rfl, hO, hP⟩ := hp
    replace hO : StpO (L, K, n, rI, rJ, rQ, fI, fR) ad α oa (L1, K1, n1, i1, j1, q1, f1, R1) ad1 a1 := hO
    obtain ⟨hM1, hLo1, hKo1, hno1⟩ := hI.w hO
    refine lv_istore (lv' := [(5, .int (nI cc)), (0, .ref b), (1, .ref (ad 0)), (2, .ref (bm 0)), (3, .ref oa), (4, .int i9)]) hx hb dL_law_785 hl (by decide) rfl (fun ls hl => ?_)
    refine lv_aload_n hx hb dL_law_787 rfl (lv_at hl 3 rfl) ?_
    refine lv_aload_n hx hb dL_law_788 rfl (lv_at hl 1 rfl) ?_
    refine lv_iload hx hb dL_law_789 (lv_at hl 5 rfl) ?_
    refine lv_iconst (v := 1) hx hb dL_law_791 (by decide) ?_
    refine lv_iadd hx hb dL_law_792 ?_
    refine g_sld hx hb hXs hbl hG hrd.1 dL_law_793 ?_
    refine lv_aload_n hx hb dL_law_794 rfl (lv_at hl 1 rfl) ?_
    refine lv_iload hx hb dL_law_795 (lv_at hl 5 rfl) ?_
    refine lv_iconst (v := 2) hx hb dL_law_797 (by decide) ?_
    refine lv_iadd hx hb dL_law_798 ?_
    refine g_sld hx hb hXs hbl hG hrd.2.1 dL_law_799 ?_
    refine lv_aload_n hx hb dL_law_800 rfl (lv_at hl 1 rfl) ?_
    refine lv_iload hx hb dL_law_801 (lv_at hl 5 rfl) ?_
    refine lv_iconst (v := 3) hx hb dL_law_803 (by decide) ?_
    refine lv_iadd hx hb dL_law_804 ?_
    refine g_sld hx hb hXs hbl hG hrd.2.2.1 dL_law_805 ?_
    refine lv_aload_n hx hb dL_law_806 rfl (lv_at hl 1 rfl) ?_
    refine lv_iload hx hb dL_law_807 (lv_at hl 5 rfl) ?_
    refine lv_iconst (v := 4) hx hb dL_law_809 (by decide) ?_
    refine lv_iadd hx hb dL_law_810 ?_
    refine g_sld hx hb hXs hbl hG hrd.2.2.2 dL_law_811 ?_
    refine lv_if_eq (tgt := 819) hx hb dL_law_812 (by decide) (fun on2 => ?_) (fun on2 => ?_)
    · exact absurd on2 on1
    · refine lv_iconst (v := 1) hx hb dL_law_815 (by decide) ?_
      refine lv_goto (tgt := 820) hx hb dL_law_816 (by decide) ?_
      refine g_calli (va_runV (As := [.int v1, .int v2, .int v3, .int (bi true)]) (rest := []) ⟨hx, hb, hml, hown, hts⟩ (k_timed l G s.heap.size hM1 (v := (v1)) (el := (v2)) (tm := (v3)) (on := true)) (cwV 4 hts gL_law_X3_timed rfl rfl rfl (by decide +kernel) ⟨(Nat.le_of_ble_eq_true rfl), (Nat.le_of_ble_eq_true rfl)⟩) (g_pv3 hK hG hM1.1.2.1 hM1.1.2.2.1) rfl rfl hl.1 rfl (lv_room (Nat.le_of_ble_eq_true rfl)) dL_law_820 hcs) hG (fun y2 u H locs hp hG => ?_)
      replace hG : gw G s.heap.size s.heap (L1, K1, n1, u.1.1, u.1.2.1, q1, u.1.2.2, R1) H locs := hG
      obtain ⟨β1, hSt, hS1, ht, hyx⟩ := ag_timed (u := u) hI.2.2.1 hI.1 hO.1 hP hp
      replace hSt : StpM (L1, K1, n1, i1, j1, q1, f1, R1) bm (L1, K1, n1, u.1.1, u.1.2.1, q1, u.1.2.2, R1) β1 := hSt
      have hI2 := hI.m hO hSt hS1
      have hM2 := hSt.1
      have hLo2 : oa ∈ L1 := hI2.1.2.2.2.1
      have hKo2 : K1 oa = 5 := hI2.1.2.2.2.2.1
      have hno2 : n1 oa = 1 := hI2.1.2.2.2.2.2
      refine lv_istore (lv' := [(6, .int y2), (5, .int (nI cc)), (0, .ref b), (1, .ref (ad 0)), (2, .ref (bm 0)), (3, .ref oa), (4, .int i9)]) hx hb dL_law_823 hl (by decide) rfl (fun ls hl => ?_)
      refine lv_aload_n hx hb dL_law_825 rfl (lv_at hl 4 rfl) ?_
      refine g_calli (va_runV (As := []) (rest := []) ⟨hx, hb, hml, hown, hts⟩ (k_thrown l G s.heap.size hM2) (cwV 0 hts gL_law_X3_thrown rfl rfl rfl (by decide +kernel) ⟨(Nat.le_of_ble_eq_true rfl), (Nat.le_of_ble_eq_true rfl)⟩) (g_pv3 hK hG hM2.1.2.1 hM2.1.2.2.1) rfl rfl hl.1 rfl (lv_room (Nat.le_of_ble_eq_true rfl)) dL_law_826 hcs) hG (fun y3 _ H locs hp hG => ?_)
      obtain rfl : y3 = nI cc := hp.trans ht
      refine lv_iload hx hb dL_law_829 (lv_at hl 1 rfl) ?_
      refine lv_icmp_eq (tgt := 836) hx hb dL_law_831 (by decide) (fun c1 => ?_) (fun c1 => ?_)
      · refine lv_iload hx hb dL_law_836 (lv_at hl 1 rfl) ?_
        refine lv_if_ne (tgt := 853) hx hb dL_law_838 (by decide) (fun c2 => ?_) (fun c2 => ?_)
        · refine lv_goto (tgt := 1911) hx hb dL_law_853 (by decide) ?_
          exact kk (L1, K1, n1, u.1.1, u.1.2.1, q1, u.1.2.2, R1) ad1 a1 β1 _ _ _ hI2.1 hG (by rw [hO.2.2.2]; exact lv_sub hl [2, 3, 4, 5, 6] rfl)
        · refine lv_aload_n hx hb dL_law_841 rfl (lv_at hl 5 rfl) ?_
          refine lv_iconst (v := 0) hx hb dL_law_842 (by decide) ?_
          refine g_lald hx hb hK hG hLo2 hKo2 (0) rfl (by rw [hno2]; decide) (by rw [hno2]; decide) dL_law_843 ?_
          refine lv_iload hx hb dL_law_844 (lv_at hl 0 rfl) ?_
          refine lv_i2l hx hb dL_law_846 rfl ?_
          refine W.lcmp hx hb dL_law_847 ?_
          refine lv_if_eq (tgt := 853) hx hb dL_law_848 (by decide) (fun c3 => ?_) (fun c3 => ?_)
          · refine lv_goto (tgt := 1911) hx hb dL_law_853 (by decide) ?_
            exact kk (L1, K1, n1, u.1.1, u.1.2.1, q1, u.1.2.2, R1) ad1 a1 β1 _ _ _ hI2.1 hG (by rw [hO.2.2.2]; exact lv_sub hl [2, 3, 4, 5, 6] rfl)
          · exact absurd ((lg_cmp_eq _ _).mpr ((congrFun hI2.2 0).trans (hyx (by first | exact c2 | exact Classical.not_not.mp c2)))) c3
      · exact absurd rfl c1
set_option maxHeartbeats 4000000 in
set_option maxRecDepth 100000 in
/-- the law's case join -/
theorem law_join {p : Program} {l : Launch} {e : Env} {s : State} {m : MethodId} {below : List Frame} {meth : Method} {c : Code} {b Ls : Nat} {xs : Nat → Int32} {Q : State → Prop} (hl0 : l.stackTraces = false) (C0 : lw_At p s m meth c b Ls xs) {G : gG} (hK : g_K G s) (hX : g_X s.heap.size s) (hN : g_N s) {i9 v1 v2 v3 v4 : Int32} (hrd : rdS Ls xs i9 v1 v2 v3 v4) {cells slots : Nat} (hcs : cells + 12 ≤ room_1.cells ∧ slots + 100 ≤ room_1.slots) {L : List Nat} {K n : Nat → Nat} {rI : Nat → Nat → Int32} {rJ : Nat → Nat → Int64} {rQ : Nat → Nat → Option Nat} {fI : Nat → Nat → Int32} {fR : Nat → Nat → Option Nat} {ad : Nat → Nat} {α : aT} {bm : Nat → Nat} {β : bT} {oa : Nat} (hI : LI (L, K, n, rI, rJ, rQ, fI, fR) ad α bm β oa) {H : Heap} {locs : List Loc} (hG : gw G s.heap.size s.heap (L, K, n, rI, rJ, rQ, fI, fR) H locs) {ls : Array Slot} (hl : lv_has ls 8 [(0, .ref b), (1, .ref (ad 0)), (2, .ref (bm 0)), (3, .ref oa), (4, .int i9)]) (kk : lwK p l e s m below meth c b G bm oa i9 cells slots Q) : W p l e room_1 s m #[Value.ref b] below meth c H locs cells slots Q (F0 m 856 ls []) := by
  obtain ⟨hx, hb, hr, hml, hown, hts, hXs, hbl, hlocks, hgv⟩ := C0
  have hown : s.vm.findClass RL = some m.cls := hown
  have hts : ∀ w ∈ wsL_law, w.before #[Value.ref b] s = true := fun w h => hts w (wsL_law_in w h)
  have hLo := hI.2.2.2.1
  have hKo := hI.2.2.2.2.1
  have hno := hI.2.2.2.2.2
  have hio := dj_o hI.1 hKo hno
  refine lv_aload_n hx hb dL_law_856 rfl (lv_at hl 1 rfl) ?_
  refine lv_aload_n hx hb dL_law_857 rfl (lv_at hl 0 rfl) ?_
  refine lv_iload hx hb dL_law_858 (lv_at hl 4 rfl) ?_
  refine lv_iconst (v := 1) hx hb dL_law_860 (by decide) ?_
  refine lv_iadd hx hb dL_law_861 ?_
  refine g_sld hx hb hXs hbl hG hrd.1 dL_law_862 ?_
  refine lv_aload_n hx hb dL_law_863 rfl (lv_at hl 0 rfl) ?_
  refine lv_iload hx hb dL_law_864 (lv_at hl 4 rfl) ?_
  refine lv_iconst (v := 2) hx hb dL_law_866 (by decide) ?_
  refine lv_iadd hx hb dL_law_867 ?_
  refine g_sld hx hb hXs hbl hG hrd.2.1 dL_law_868 ?_
  refine lv_aload_n hx hb dL_law_869 rfl (lv_at hl 3 rfl) ?_
  refine g_calli (vx_runSW (As := [.ref (ad 0), .int v1, .int v2, .ref oa]) (rest := []) ⟨hx, hb, hml, hown, hts⟩ (w_join l G s.heap.size hl0 hI.1 hLo hKo hno hio (i := (v1)) (j := (v2))) (vx_cwSW 4 hts gL_law_L_join rfl rfl rfl (by decide +kernel) ⟨(Nat.le_of_ble_eq_true rfl), (Nat.le_of_ble_eq_true rfl)⟩) (g_psy hK hX hN hG) rfl rfl hl.1 rfl (lv_room (Nat.le_of_ble_eq_true rfl)) dL_law_870 hcs) hG (fun y1 u H locs hp hG => ?_)
  obtain ⟨⟨L1, K1, n1, i1, j1, q1, f1, R1⟩, ad1, a1⟩ := u
  replace hG : gw G s.heap.size s.heap (L1, K1, n1, i1, j1, q1, f1, R1) H locs := hG
  obtain ⟨cc, rfl, hO, hP⟩ := hp
  replace hO : StpO (L, K, n, rI, rJ, rQ, fI, fR) ad α oa (L1, K1, n1, i1, j1, q1, f1, R1) ad1 a1 := hO
  obtain ⟨hM1, hLo1, hKo1, hno1⟩ := hI.w hO
  refine lv_istore (lv' := [(5, .int (nI cc)), (0, .ref b), (1, .ref (ad 0)), (2, .ref (bm 0)), (3, .ref oa), (4, .int i9)]) hx hb dL_law_873 hl (by decide) rfl (fun ls hl => ?_)
  refine lv_aload_n hx hb dL_law_875 rfl (lv_at hl 3 rfl) ?_
  refine lv_aload_n hx hb dL_law_876 rfl (lv_at hl 1 rfl) ?_
  refine lv_iload hx hb dL_law_877 (lv_at hl 5 rfl) ?_
  refine lv_iconst (v := 1) hx hb dL_law_879 (by decide) ?_
  refine lv_iadd hx hb dL_law_880 ?_
  refine g_sld hx hb hXs hbl hG hrd.1 dL_law_881 ?_
  refine lv_aload_n hx hb dL_law_882 rfl (lv_at hl 1 rfl) ?_
  refine lv_iload hx hb dL_law_883 (lv_at hl 5 rfl) ?_
  refine lv_iconst (v := 2) hx hb dL_law_885 (by decide) ?_
  refine lv_iadd hx hb dL_law_886 ?_
  refine g_sld hx hb hXs hbl hG hrd.2.1 dL_law_887 ?_
  refine g_calli (va_runV (As := [.int v1, .int v2]) (rest := []) ⟨hx, hb, hml, hown, hts⟩ (k_join l G s.heap.size hM1 (v := (v1)) (j := (v2))) (cwV 2 hts gL_law_X3_join rfl rfl rfl (by decide +kernel) ⟨(Nat.le_of_ble_eq_true rfl), (Nat.le_of_ble_eq_true rfl)⟩) (g_pv3 hK hG hM1.1.2.1 hM1.1.2.2.1) rfl rfl hl.1 rfl (lv_room (Nat.le_of_ble_eq_true rfl)) dL_law_888 hcs) hG (fun y2 u H locs hp hG => ?_)
  replace hG : gw G s.heap.size s.heap (L1, K1, n1, u.1.1, u.1.2.1, q1, u.1.2.2, R1) H locs := hG
  obtain ⟨β1, hSt, hS1, ht, hyx⟩ := ag_join (u := u) hI.2.2.1 hI.1 hO.1 hP hp
  replace hSt : StpM (L1, K1, n1, i1, j1, q1, f1, R1) bm (L1, K1, n1, u.1.1, u.1.2.1, q1, u.1.2.2, R1) β1 := hSt
  have hI2 := hI.m hO hSt hS1
  have hM2 := hSt.1
  have hLo2 : oa ∈ L1 := hI2.1.2.2.2.1
  have hKo2 : K1 oa = 5 := hI2.1.2.2.2.2.1
  have hno2 : n1 oa = 1 := hI2.1.2.2.2.2.2
  refine lv_istore (lv' := [(6, .int y2), (5, .int (nI cc)), (0, .ref b), (1, .ref (ad 0)), (2, .ref (bm 0)), (3, .ref oa), (4, .int i9)]) hx hb dL_law_891 hl (by decide) rfl (fun ls hl => ?_)
  refine lv_aload_n hx hb dL_law_893 rfl (lv_at hl 4 rfl) ?_
  refine g_calli (va_runV (As := []) (rest := []) ⟨hx, hb, hml, hown, hts⟩ (k_thrown l G s.heap.size hM2) (cwV 0 hts gL_law_X3_thrown rfl rfl rfl (by decide +kernel) ⟨(Nat.le_of_ble_eq_true rfl), (Nat.le_of_ble_eq_true rfl)⟩) (g_pv3 hK hG hM2.1.2.1 hM2.1.2.2.1) rfl rfl hl.1 rfl (lv_room (Nat.le_of_ble_eq_true rfl)) dL_law_894 hcs) hG (fun y3 _ H locs hp hG => ?_)
  obtain rfl : y3 = nI cc := hp.trans ht
  refine lv_iload hx hb dL_law_897 (lv_at hl 1 rfl) ?_
  refine lv_icmp_eq (tgt := 904) hx hb dL_law_899 (by decide) (fun c1 => ?_) (fun c1 => ?_)
  · refine lv_iload hx hb dL_law_904 (lv_at hl 1 rfl) ?_
    refine lv_if_ne (tgt := 921) hx hb dL_law_906 (by decide) (fun c2 => ?_) (fun c2 => ?_)
    · refine lv_goto (tgt := 1911) hx hb dL_law_921 (by decide) ?_
      exact kk (L1, K1, n1, u.1.1, u.1.2.1, q1, u.1.2.2, R1) ad1 a1 β1 _ _ _ hI2.1 hG (by rw [hO.2.2.2]; exact lv_sub hl [2, 3, 4, 5, 6] rfl)
    · refine lv_aload_n hx hb dL_law_909 rfl (lv_at hl 5 rfl) ?_
      refine lv_iconst (v := 0) hx hb dL_law_910 (by decide) ?_
      refine g_lald hx hb hK hG hLo2 hKo2 (0) rfl (by rw [hno2]; decide) (by rw [hno2]; decide) dL_law_911 ?_
      refine lv_iload hx hb dL_law_912 (lv_at hl 0 rfl) ?_
      refine lv_i2l hx hb dL_law_914 rfl ?_
      refine W.lcmp hx hb dL_law_915 ?_
      refine lv_if_eq (tgt := 921) hx hb dL_law_916 (by decide) (fun c3 => ?_) (fun c3 => ?_)
      · refine lv_goto (tgt := 1911) hx hb dL_law_921 (by decide) ?_
        exact kk (L1, K1, n1, u.1.1, u.1.2.1, q1, u.1.2.2, R1) ad1 a1 β1 _ _ _ hI2.1 hG (by rw [hO.2.2.2]; exact lv_sub hl [2, 3, 4, 5, 6] rfl)
      · exact absurd ((lg_cmp_eq _ _).mpr ((congrFun hI2.2 0).trans (hyx (by first | exact c2 | exact Classical.not_not.mp c2)))) c3
  · exact absurd rfl c1
