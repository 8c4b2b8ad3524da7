set_option maxHeartbeats 4000000 in
set_option maxRecDepth 100000 in
/-- State.isSeen(i) -/
theorem c_isSeen (l : Launch) (G : gG) (base : Nat) {L : List Nat} {K n : Nat → Nat} {rI : Nat → Nat → Int32} {rJ : Nat → Nat → Int64} {rQ : Nat → Nat → Option Nat} {fI : Nat → Nat → Int32} {fR : Nat → Nat → Option Nat} {a bs bl bt : Nat} (hS : isSt L K n fR a bs bl bt) {i : Nat} (hi : i < 256) : Met l yX1_isSeen wsX1_isSeen ({ frames := 0, cells := 0, slots := 0, locals := 0 }) (va_Pc [.ref a, .int (nI i)] (g_Pr G base (L, K, n, rI, rJ, rQ, fI, fR))) (g_Qi G base (fun _ : Unit => (L, K, n, rI, rJ, rQ, fI, fR)) (fun r _ => r = bi (rb (rJ bs) i))) 0 0 (g_A base) := by
  obtain ⟨hLa, hKa, h0a, h1a, h2a, hLbs, hKbs, hnbs, hLbl, hKbl, hnbl, hLbt, hKbt, hnbt⟩ := hS
  refine Met.ofW (cc := cX1_isSeen) (maxL := 2) (ret := (some .boolean)) (by decide) rfl ?_
  intro p e s m args below meth c s₁ B hml hv
  obtain ⟨rfl, hPr⟩ := hv
  have hx := B.exec
  have hb := B.bytes
  have hr := B.returns
  have hts := atoms_spec (ws := wsX1_isSeen) B.pre
  have hown : s.vm.findClass RX1 = some m.cls := findClass_of_methodNamed B.named
  have hlocks := B.notSynchronized
  have hin : meth.name = "isSeen" := (name_of_methodNamed B.named B.method).1
  have hK := hPr.2.2
  have hG := hPr.gw
  have hl := lv_entry ([.ref a, .int (nI i)]) (n := 2) (Nat.le_of_ble_eq_true rfl)
  rw [lg_entry_eq]
  generalize (lg_sl ([.ref a, .int (nI i)]) ++ List.replicate (2 - (lg_sl ([.ref a, .int (nI i)])).length) Slot.unset).toArray = ls at hl ⊢
  have hl : lv_has ls 2 [(0, .ref a), (1, .int (nI i))] := hl
  refine g_start hPr (fun H locs hG => ?_)
  refine lv_aload_n hx hb dX1_isSeen_0 rfl (lv_at hl 0 rfl) ?_
  refine r_State_seen hx hb hts (by decide +kernel) hown hK hG hLa hKa h0a (hts (.fieldLink RX1 9 "DotStores$State" "seen" "[J") (by decide +kernel)) dX1_isSeen_1 ?_
  refine lv_iload_n hx hb dX1_isSeen_4 rfl (lv_at hl 1 rfl) ?_
  refine lv_bipush (v := 64) hx hb dX1_isSeen_5 (by decide) ?_
  refine lv_idiv hx hb dX1_isSeen_7 (by decide) ?_
  refine lv_topi (fun z1 ez1 => ?_)
  obtain rfl : z1 = nI (i / 64) := ez1.trans (pk_div (a := i) (d := 64) (by omega) (by decide) (by decide))
  refine g_lald hx hb hK hG hLbs hKbs (i / 64) rfl (by rw [hnbs]; omega) (by rw [hnbs]; decide) dX1_isSeen_8 ?_
  refine lv_iload_n hx hb dX1_isSeen_9 rfl (lv_at hl 1 rfl) ?_
  refine lv_bipush (v := 64) hx hb dX1_isSeen_10 (by decide) ?_
  refine lv_irem hx hb dX1_isSeen_12 (by decide) ?_
  refine lv_topi (fun z2 ez2 => ?_)
  obtain rfl : z2 = nI (i % 64) := ez2.trans (pk_rem (a := i) (d := 64) (by omega) (by decide) (by decide))
  refine lv_lushr hx hb dX1_isSeen_13 rfl ?_
  refine lv_lconst (v := 1) hx hb dX1_isSeen_14 (by decide) ?_
  refine lv_land hx hb dX1_isSeen_15 ?_
  refine lv_lconst (v := 0) hx hb dX1_isSeen_16 (by decide) ?_
  refine W.lcmp hx hb dX1_isSeen_17 ?_
  refine lv_if_eq (tgt := 25) hx hb dX1_isSeen_18 (by decide) (fun c1 => ?_) (fun c1 => ?_)
  · have c2 := (lb_test (Nat.mod_lt i (by decide))).mp ((lg_cmp_eq _ _).mp c1)
    refine lv_iconst (v := 0) hx hb dX1_isSeen_25 (by decide) ?_
    refine W.widen (k := 0) (n := 0) (by omega) (by omega) ?_
    exact W.zret (v := 0) hx hb hr rfl (fun t ht hW => ⟨⟨0, (), rfl, (by unfold rb; rw [c2]; rfl), hG.at ht⟩, hG.2.2.1.F ht⟩) hG.2.2.1.2.2 dX1_isSeen_26
  · have c2 := fun z => c1 ((lg_cmp_eq _ _).mpr ((lb_test (Nat.mod_lt i (by decide))).mpr z))
    refine lv_iconst (v := 1) hx hb dX1_isSeen_21 (by decide) ?_
    refine lv_goto (tgt := 26) hx hb dX1_isSeen_22 (by decide) ?_
    refine W.widen (k := 0) (n := 0) (by omega) (by omega) ?_
    exact W.zret (v := 1) hx hb hr rfl (fun t ht hW => ⟨⟨1, (), rfl, (by unfold rb; rw [ts_nf c2]; rfl), hG.at ht⟩, hG.2.2.1.F ht⟩) hG.2.2.1.2.2 dX1_isSeen_26
set_option maxHeartbeats 4000000 in
set_option maxRecDepth 100000 in
/-- State.isLive(i) -/
theorem c_isLive (l : Launch) (G : gG) (base : Nat) {L : List Nat} {K n : Nat → Nat} {rI : Nat → Nat → Int32} {rJ : Nat → Nat → Int64} {rQ : Nat → Nat → Option Nat} {fI : Nat → Nat → Int32} {fR : Nat → Nat → Option Nat} {a bs bl bt : Nat} (hS : isSt L K n fR a bs bl bt) {i : Nat} (hi : i < 256) : Met l yX1_isLive wsX1_isLive ({ frames := 0, cells := 0, slots := 0, locals := 0 }) (va_Pc [.ref a, .int (nI i)] (g_Pr G base (L, K, n, rI, rJ, rQ, fI, fR))) (g_Qi G base (fun _ : Unit => (L, K, n, rI, rJ, rQ, fI, fR)) (fun r _ => r = bi (rb (rJ bl) i))) 0 0 (g_A base) := by
  obtain ⟨hLa, hKa, h0a, h1a, h2a, hLbs, hKbs, hnbs, hLbl, hKbl, hnbl, hLbt, hKbt, hnbt⟩ := hS
  refine Met.ofW (cc := cX1_isLive) (maxL := 2) (ret := (some .boolean)) (by decide) rfl ?_
  intro p e s m args below meth c s₁ B hml hv
  obtain ⟨rfl, hPr⟩ := hv
  have hx := B.exec
  have hb := B.bytes
  have hr := B.returns
  have hts := atoms_spec (ws := wsX1_isLive) B.pre
  have hown : s.vm.findClass RX1 = some m.cls := findClass_of_methodNamed B.named
  have hlocks := B.notSynchronized
  have hin : meth.name = "isLive" := (name_of_methodNamed B.named B.method).1
  have hK := hPr.2.2
  have hG := hPr.gw
  have hl := lv_entry ([.ref a, .int (nI i)]) (n := 2) (Nat.le_of_ble_eq_true rfl)
  rw [lg_entry_eq]
  generalize (lg_sl ([.ref a, .int (nI i)]) ++ List.replicate (2 - (lg_sl ([.ref a, .int (nI i)])).length) Slot.unset).toArray = ls at hl ⊢
  have hl : lv_has ls 2 [(0, .ref a), (1, .int (nI i))] := hl
  refine g_start hPr (fun H locs hG => ?_)
  refine lv_aload_n hx hb dX1_isLive_0 rfl (lv_at hl 0 rfl) ?_
  refine r_State_live hx hb hts (by decide +kernel) hown hK hG hLa hKa h1a (hts (.fieldLink RX1 15 "DotStores$State" "live" "[J") (by decide +kernel)) dX1_isLive_1 ?_
  refine lv_iload_n hx hb dX1_isLive_4 rfl (lv_at hl 1 rfl) ?_
  refine lv_bipush (v := 64) hx hb dX1_isLive_5 (by decide) ?_
  refine lv_idiv hx hb dX1_isLive_7 (by decide) ?_
  refine lv_topi (fun z1 ez1 => ?_)
  obtain rfl : z1 = nI (i / 64) := ez1.trans (pk_div (a := i) (d := 64) (by omega) (by decide) (by decide))
  refine g_lald hx hb hK hG hLbl hKbl (i / 64) rfl (by rw [hnbl]; omega) (by rw [hnbl]; decide) dX1_isLive_8 ?_
  refine lv_iload_n hx hb dX1_isLive_9 rfl (lv_at hl 1 rfl) ?_
  refine lv_bipush (v := 64) hx hb dX1_isLive_10 (by decide) ?_
  refine lv_irem hx hb dX1_isLive_12 (by decide) ?_
  refine lv_topi (fun z2 ez2 => ?_)
  obtain rfl : z2 = nI (i % 64) := ez2.trans (pk_rem (a := i) (d := 64) (by omega) (by decide) (by decide))
  refine lv_lushr hx hb dX1_isLive_13 rfl ?_
  refine lv_lconst (v := 1) hx hb dX1_isLive_14 (by decide) ?_
  refine lv_land hx hb dX1_isLive_15 ?_
  refine lv_lconst (v := 0) hx hb dX1_isLive_16 (by decide) ?_
  refine W.lcmp hx hb dX1_isLive_17 ?_
  refine lv_if_eq (tgt := 25) hx hb dX1_isLive_18 (by decide) (fun c1 => ?_) (fun c1 => ?_)
  · have c2 := (lb_test (Nat.mod_lt i (by decide))).mp ((lg_cmp_eq _ _).mp c1)
    refine lv_iconst (v := 0) hx hb dX1_isLive_25 (by decide) ?_
    refine W.widen (k := 0) (n := 0) (by omega) (by omega) ?_
    exact W.zret (v := 0) hx hb hr rfl (fun t ht hW => ⟨⟨0, (), rfl, (by unfold rb; rw [c2]; rfl), hG.at ht⟩, hG.2.2.1.F ht⟩) hG.2.2.1.2.2 dX1_isLive_26
  · have c2 := fun z => c1 ((lg_cmp_eq _ _).mpr ((lb_test (Nat.mod_lt i (by decide))).mpr z))
    refine lv_iconst (v := 1) hx hb dX1_isLive_21 (by decide) ?_
    refine lv_goto (tgt := 26) hx hb dX1_isLive_22 (by decide) ?_
    refine W.widen (k := 0) (n := 0) (by omega) (by omega) ?_
    exact W.zret (v := 1) hx hb hr rfl (fun t ht hW => ⟨⟨1, (), rfl, (by unfold rb; rw [ts_nf c2]; rfl), hG.at ht⟩, hG.2.2.1.F ht⟩) hG.2.2.1.2.2 dX1_isLive_26
set_option maxHeartbeats 4000000 in
set_option maxRecDepth 100000 in
/-- State.see(i): the bit i of SEEN is set -/
theorem c_see (l : Launch) (G : gG) (base : Nat) {L : List Nat} {K n : Nat → Nat} {rI : Nat → Nat → Int32} {rJ : Nat → Nat → Int64} {rQ : Nat → Nat → Option Nat} {fI : Nat → Nat → Int32} {fR : Nat → Nat → Option Nat} {a bs bl bt : Nat} (hS : isSt L K n fR a bs bl bt) {i : Nat} (hi : i < 256) : Met l yX1_see wsX1_see ({ frames := 0, cells := 0, slots := 0, locals := 0 }) (va_Pc [.ref a, .int (nI i)] (g_Pr G base (L, K, n, rI, rJ, rQ, fI, fR))) (g_Qv G base (fun u : Nat → Nat → Int64 => (L, K, n, rI, u, rQ, fI, fR)) (fun u => u = g_up rJ bs (i / 64) (rJ bs (i / 64) ||| (1 <<< ((nI (i % 64)).toInt64 &&& 63))))) 0 0 (g_A base) := by
  obtain ⟨hLa, hKa, h0a, h1a, h2a, hLbs, hKbs, hnbs, hLbl, hKbl, hnbl, hLbt, hKbt, hnbt⟩ := hS
  refine Met.ofW (cc := cX1_see) (maxL := 2) (ret := none) (by decide) rfl ?_
  intro p e s m args below meth c s₁ B hml hv
  obtain ⟨rfl, hPr⟩ := hv
  have hx := B.exec
  have hb := B.bytes
  have hr := B.returns
  have hts := atoms_spec (ws := wsX1_see) B.pre
  have hown : s.vm.findClass RX1 = some m.cls := findClass_of_methodNamed B.named
  have hlocks := B.notSynchronized
  have hin : meth.name = "see" := (name_of_methodNamed B.named B.method).1
  have hK := hPr.2.2
  have hG := hPr.gw
  have hl := lv_entry ([.ref a, .int (nI i)]) (n := 2) (Nat.le_of_ble_eq_true rfl)
  rw [lg_entry_eq]
  generalize (lg_sl ([.ref a, .int (nI i)]) ++ List.replicate (2 - (lg_sl ([.ref a, .int (nI i)])).length) Slot.unset).toArray = ls at hl ⊢
  have hl : lv_has ls 2 [(0, .ref a), (1, .int (nI i))] := hl
  refine g_start hPr (fun H locs hG => ?_)
  refine lv_aload_n hx hb dX1_see_0 rfl (lv_at hl 0 rfl) ?_
  refine r_State_seen hx hb hts (by decide +kernel) hown hK hG hLa hKa h0a (hts (.fieldLink RX1 9 "DotStores$State" "seen" "[J") (by decide +kernel)) dX1_see_1 ?_
  refine lv_iload_n hx hb dX1_see_4 rfl (lv_at hl 1 rfl) ?_
  refine lv_bipush (v := 64) hx hb dX1_see_5 (by decide) ?_
  refine lv_idiv hx hb dX1_see_7 (by decide) ?_
  refine lv_topi (fun z1 ez1 => ?_)
  obtain rfl : z1 = nI (i / 64) := ez1.trans (pk_div (a := i) (d := 64) (by omega) (by decide) (by decide))
  refine lv_dup2_11 hx hb dX1_see_8 rfl rfl ?_
  refine g_lald hx hb hK hG hLbs hKbs (i / 64) rfl (by rw [hnbs]; omega) (by rw [hnbs]; decide) dX1_see_9 ?_
  refine lv_lconst (v := 1) hx hb dX1_see_10 (by decide) ?_
  refine lv_iload_n hx hb dX1_see_11 rfl (lv_at hl 1 rfl) ?_
  refine lv_bipush (v := 64) hx hb dX1_see_12 (by decide) ?_
  refine lv_irem hx hb dX1_see_14 (by decide) ?_
  refine lv_topi (fun z2 ez2 => ?_)
  obtain rfl : z2 = nI (i % 64) := ez2.trans (pk_rem (a := i) (d := 64) (by omega) (by decide) (by decide))
  refine lv_lshl hx hb dX1_see_15 rfl ?_
  refine lv_lor hx hb dX1_see_16 ?_
  refine g_last hx hb hK hG hLbs hKbs (i / 64) rfl (by rw [hnbs]; omega) (by rw [hnbs]; decide) dX1_see_17 (fun H locs hG => ?_)
  refine W.widen (k := 0) (n := 0) (by omega) (by omega) ?_
  exact W.vret hx hb hr (fun t ht hW => ⟨⟨_, rfl, rfl, hG.at ht⟩, hG.2.2.1.F ht⟩) hG.2.2.1.2.2 dX1_see_18
set_option maxHeartbeats 4000000 in
set_option maxRecDepth 100000 in
/-- State.enliven(i): the bit i of SEEN and LIVE is set -/
theorem c_enliven (l : Launch) (G : gG) (base : Nat) {L : List Nat} {K n : Nat → Nat} {rI : Nat → Nat → Int32} {rJ : Nat → Nat → Int64} {rQ : Nat → Nat → Option Nat} {fI : Nat → Nat → Int32} {fR : Nat → Nat → Option Nat} {a bs bl bt : Nat} (hS : isSt L K n fR a bs bl bt) {i : Nat} (hi : i < 256) : Met l yX1_enliven wsX1_enliven ({ frames := 1, cells := 0, slots := 0, locals := 21 }) (va_Pc [.ref a, .int (nI i)] (g_Pr G base (L, K, n, rI, rJ, rQ, fI, fR))) (g_Qv G base (fun u : Nat → Nat → Int64 => (L, K, n, rI, u, rQ, fI, fR)) (fun u => u = g_up (g_up rJ bs (i / 64) (rJ bs (i / 64) ||| (1 <<< ((nI (i % 64)).toInt64 &&& 63)))) bl (i / 64) (g_up rJ bs (i / 64) (rJ bs (i / 64) ||| (1 <<< ((nI (i % 64)).toInt64 &&& 63))) bl (i / 64) ||| (1 <<< ((nI (i % 64)).toInt64 &&& 63))))) 0 0 (g_A base) := by
  have hS0 := hS
  obtain ⟨hLa, hKa, h0a, h1a, h2a, hLbs, hKbs, hnbs, hLbl, hKbl, hnbl, hLbt, hKbt, hnbt⟩ := hS0
  refine Met.ofW (cc := cX1_enliven) (maxL := 2) (ret := none) (by decide) rfl ?_
  intro p e s m args below meth c s₁ B hml hv
  obtain ⟨rfl, hPr⟩ := hv
  have hx := B.exec
  have hb := B.bytes
  have hr := B.returns
  have hts := atoms_spec (ws := wsX1_enliven) B.pre
  have hown : s.vm.findClass RX1 = some m.cls := findClass_of_methodNamed B.named
  have hlocks := B.notSynchronized
  have hin : meth.name = "enliven" := (name_of_methodNamed B.named B.method).1
  have hK := hPr.2.2
  have hG := hPr.gw
  have hl := lv_entry ([.ref a, .int (nI i)]) (n := 2) (Nat.le_of_ble_eq_true rfl)
  rw [lg_entry_eq]
  generalize (lg_sl ([.ref a, .int (nI i)]) ++ List.replicate (2 - (lg_sl ([.ref a, .int (nI i)])).length) Slot.unset).toArray = ls at hl ⊢
  have hl : lv_has ls 2 [(0, .ref a), (1, .int (nI i))] := hl
  refine g_start hPr (fun H locs hG => ?_)
  refine lv_aload_n hx hb dX1_enliven_0 rfl (lv_at hl 0 rfl) ?_
  refine lv_iload_n hx hb dX1_enliven_1 rfl (lv_at hl 1 rfl) ?_
  refine g_callv (va_runV (As := [.int (nI i)]) (rest := []) ⟨hx, hb, hml, hown, hts⟩ (c_see l G base hS hi) (cwV 1 hts gX1_enliven_X1_see rfl rfl rfl (by decide +kernel) ⟨(Nat.le_of_ble_eq_true rfl), (Nat.le_of_ble_eq_true rfl)⟩) (g_pv1 hK hG hLa hKa) rfl rfl hl.1 rfl (lv_room (Nat.le_of_ble_eq_true rfl)) dX1_enliven_2 ⟨(Nat.le_of_ble_eq_true rfl), (Nat.le_of_ble_eq_true rfl)⟩) hG (fun u H locs hp hG => ?_)
  refine lv_aload_n hx hb dX1_enliven_5 rfl (lv_at hl 0 rfl) ?_
  refine r_State_live hx hb hts (by decide +kernel) hown hK hG hLa hKa h1a (hts (.fieldLink RX1 15 "DotStores$State" "live" "[J") (by decide +kernel)) dX1_enliven_6 ?_
  refine lv_iload_n hx hb dX1_enliven_9 rfl (lv_at hl 1 rfl) ?_
  refine lv_bipush (v := 64) hx hb dX1_enliven_10 (by decide) ?_
  refine lv_idiv hx hb dX1_enliven_12 (by decide) ?_
  refine lv_topi (fun z1 ez1 => ?_)
  obtain rfl : z1 = nI (i / 64) := ez1.trans (pk_div (a := i) (d := 64) (by omega) (by decide) (by decide))
  refine lv_dup2_11 hx hb dX1_enliven_13 rfl rfl ?_
  refine g_lald hx hb hK hG hLbl hKbl (i / 64) rfl (by rw [hnbl]; omega) (by rw [hnbl]; decide) dX1_enliven_14 ?_
  refine lv_lconst (v := 1) hx hb dX1_enliven_15 (by decide) ?_
  refine lv_iload_n hx hb dX1_enliven_16 rfl (lv_at hl 1 rfl) ?_
  refine lv_bipush (v := 64) hx hb dX1_enliven_17 (by decide) ?_
  refine lv_irem hx hb dX1_enliven_19 (by decide) ?_
  refine lv_topi (fun z2 ez2 => ?_)
  obtain rfl : z2 = nI (i % 64) := ez2.trans (pk_rem (a := i) (d := 64) (by omega) (by decide) (by decide))
  refine lv_lshl hx hb dX1_enliven_20 rfl ?_
  refine lv_lor hx hb dX1_enliven_21 ?_
  refine g_last hx hb hK hG hLbl hKbl (i / 64) rfl (by rw [hnbl]; omega) (by rw [hnbl]; decide) dX1_enliven_22 (fun H locs hG => ?_)
  refine W.widen (k := 0) (n := 0) (by omega) (by omega) ?_
  exact W.vret hx hb hr (fun t ht hW => ⟨⟨_, rfl, (by rw [hp]), hG.at ht⟩, hG.2.2.1.F ht⟩) hG.2.2.1.2.2 dX1_enliven_23
set_option maxHeartbeats 4000000 in
set_option maxRecDepth 100000 in
/-- State.takeDots(o) -/
theorem c_takeDots (l : Launch) (G : gG) (base : Nat) {L : List Nat} {K n : Nat → Nat} {rI : Nat → Nat → Int32} {rJ : Nat → Nat → Int64} {rQ : Nat → Nat → Option Nat} {fI : Nat → Nat → Int32} {fR : Nat → Nat → Option Nat} {a bs bl bt o os ol ot : Nat} (hS : isSt L K n fR a bs bl bt) (hO : isSt L K n fR o os ol ot) (hne : bl ≠ bs) : Met l yX1_takeDots wsX1_takeDots ({ frames := 0, cells := 0, slots := 0, locals := 0 }) (va_Pc [.ref a, .ref o] (g_Pr G base (L, K, n, rI, rJ, rQ, fI, fR))) (g_Qi G base (fun u : Bool × (Nat → Nat → Int64) => (L, K, n, rI, u.2, rQ, fI, fR)) (fun r u => r = bi u.1 ∧ tD bs bl os ol rJ u.2 4 ∧ (u.1 = false ↔ ∀ j, j < 4 → u.2 bl j = rJ bl j ∧ u.2 bs j = rJ bs j))) 0 0 (g_A base) := by
  have hS0 := hS
  have hO0 := hO
  obtain ⟨hLa, hKa, h0a, h1a, h2a, hLbs, hKbs, hnbs, hLbl, hKbl, hnbl, hLbt, hKbt, hnbt⟩ := hS0
  obtain ⟨hLo, hKo, h0o, h1o, h2o, hLos, hKos, hnos, hLol, hKol, hnol, hLot, hKot, hnot⟩ := hO0
  refine Met.ofW (cc := cX1_takeDots) (maxL := 10) (ret := (some .boolean)) (by decide) rfl ?_
  intro p e s m args below meth c s₁ B hml hv
  obtain ⟨rfl, hPr⟩ := hv
  have hx := B.exec
  have hb := B.bytes
  have hr := B.returns
  have hts := atoms_spec (ws := wsX1_takeDots) B.pre
  have hown : s.vm.findClass RX1 = some m.cls := findClass_of_methodNamed B.named
  have hlocks := B.notSynchronized
  have hin : meth.name = "takeDots" := (name_of_methodNamed B.named B.method).1
  have hK := hPr.2.2
  have hG := hPr.gw
  have hl := lv_entry ([.ref a, .ref o]) (n := 10) (Nat.le_of_ble_eq_true rfl)
  rw [lg_entry_eq]
  generalize (lg_sl ([.ref a, .ref o]) ++ List.replicate (10 - (lg_sl ([.ref a, .ref o])).length) Slot.unset).toArray = ls at hl ⊢
  have hl : lv_has ls 10 [(0, .ref a), (1, .ref o)] := hl
  refine g_start hPr (fun H locs hG => ?_)
  refine lv_iconst (v := 0) hx hb dX1_takeDots_0 (by decide) ?_
  refine lv_istore_n (lv' := [(2, .int 0), (0, .ref a), (1, .ref o)]) hx hb dX1_takeDots_1 rfl hl (by decide) rfl (fun ls hl => ?_)
  refine lv_iconst (v := 0) hx hb dX1_takeDots_2 (by decide) ?_
  refine lv_istore_n (lv' := [(3, .int 0), (2, .int 0), (0, .ref a), (1, .ref o)]) hx hb dX1_takeDots_3 rfl hl (by decide) rfl (fun ls hl => ?_)
  obtain ⟨w, ew⟩ : ∃ w : Nat, w = 0 := ⟨_, rfl⟩
  obtain ⟨cg, ecg⟩ : ∃ b : Bool, b = false := ⟨_, rfl⟩
  obtain ⟨r1, er1⟩ : ∃ z, z = rJ := ⟨_, rfl⟩
  replace hl : lv_has ls 10 [(0, .ref a), (1, .ref o), (2, .int (bi cg)), (3, .int (nI w))] := by rw [ew, ecg]; exact (lv_sub hl [2, 3, 1, 0] rfl)
  replace hG : gw G base s.heap (L, K, n, rI, r1, rQ, fI, fR) H locs := by rw [er1]; exact hG
  have inv : w ≤ 4 ∧ tD bs bl os ol rJ r1 w ∧ (cg = false ↔ ∀ j, j < w → r1 bl j = rJ bl j ∧ r1 bs j = rJ bs j) := by
    rw [ew, ecg, er1]
    exact ⟨by omega, tD_0 _ _ _ _ _, fun _ j h => absurd h (Nat.not_lt_zero j), fun _ => rfl⟩
  have hf : 4 < w + 5 := by omega
  clear ew ecg er1
  generalize 5 = d at hf
  induction d generalizing w cg r1 H locs ls with
  | zero => exact absurd hf (by have := inv.1; omega)
  | succ d ih =>
    obtain ⟨hw, htd, hcg⟩ := inv
    refine lv_iload_n hx hb dX1_takeDots_4 rfl (lv_at hl 3 rfl) ?_
    refine lv_iconst (v := 4) hx hb dX1_takeDots_5 (by decide) ?_
    refine lv_icmp_ge (tgt := 120) hx hb dX1_takeDots_6 (by decide) (fun c0 => ?_) (fun c0 => ?_)
    · have hw4 : w = 4 := by
        rcases Nat.lt_or_ge w 4 with q | q
        · exact absurd c0 (nI_ge q (by decide))
        · omega
      subst hw4
      refine lv_iload_n hx hb dX1_takeDots_120 rfl (lv_at hl 2 rfl) ?_
      refine W.widen (k := 0) (n := 0) (by omega) (by omega) ?_
      exact W.zret (v := (bi cg)) hx hb hr (bi_nar cg) (fun t ht hW => ⟨⟨(bi cg), (cg, r1), rfl, ⟨rfl, htd, hcg⟩, hG.at ht⟩, hG.2.2.1.F ht⟩) hG.2.2.1.2.2 dX1_takeDots_121
    · have hw4 : w < 4 := by
        rcases Nat.lt_or_ge w 4 with q | q
        · exact q
        · exact absurd (nI_le (a := 4) q (by omega)) c0
      refine lv_aload_n hx hb dX1_takeDots_9 rfl (lv_at hl 0 rfl) ?_
      refine r_State_live hx hb hts (by decide +kernel) hown hK hG hLa hKa h1a (hts (.fieldLink RX1 15 "DotStores$State" "live" "[J") (by decide +kernel)) dX1_takeDots_10 ?_
      refine lv_iload_n hx hb dX1_takeDots_13 rfl (lv_at hl 3 rfl) ?_
      refine g_lald hx hb hK hG hLbl hKbl (w) rfl (by rw [hnbl]; omega) (by rw [hnbl]; decide) dX1_takeDots_14 ?_
      refine lv_aload_n hx hb dX1_takeDots_15 rfl (lv_at hl 1 rfl) ?_
      refine r_State_live hx hb hts (by decide +kernel) hown hK hG hLo hKo h1o (hts (.fieldLink RX1 15 "DotStores$State" "live" "[J") (by decide +kernel)) dX1_takeDots_16 ?_
      refine lv_iload_n hx hb dX1_takeDots_19 rfl (lv_at hl 3 rfl) ?_
      refine g_lald hx hb hK hG hLol hKol (w) rfl (by rw [hnol]; omega) (by rw [hnol]; decide) dX1_takeDots_20 ?_
      refine lv_aload_n hx hb dX1_takeDots_21 rfl (lv_at hl 1 rfl) ?_
      refine r_State_seen hx hb hts (by decide +kernel) hown hK hG hLo hKo h0o (hts (.fieldLink RX1 9 "DotStores$State" "seen" "[J") (by decide +kernel)) dX1_takeDots_22 ?_
      refine lv_iload_n hx hb dX1_takeDots_25 rfl (lv_at hl 3 rfl) ?_
      refine g_lald hx hb hK hG hLos hKos (w) rfl (by rw [hnos]; omega) (by rw [hnos]; decide) dX1_takeDots_26 ?_
      refine lv_ldc2 (v := (-1)) hx hb hown (hts (.constantLong RX1 43 (-1)) (by decide +kernel)) dX1_takeDots_27 ?_
      refine lv_lxor hx hb dX1_takeDots_30 ?_
      refine lv_lor hx hb dX1_takeDots_31 ?_
      refine lv_land hx hb dX1_takeDots_32 ?_
      refine lv_lstore (lv' := [(4, .long ((r1 bl (w)) &&& ((r1 ol (w)) ||| ((r1 os (w)) ^^^ (-1))))), (0, .ref a), (1, .ref o), (2, .int (bi cg)), (3, .int (nI w))]) hx hb dX1_takeDots_33 hl (by decide) rfl (fun ls hl => ?_)
      refine lv_lload hx hb dX1_takeDots_35 (lv_at hl 0 rfl) ?_
      refine lv_aload_n hx hb dX1_takeDots_37 rfl (lv_at hl 2 rfl) ?_
      refine r_State_live hx hb hts (by decide +kernel) hown hK hG hLo hKo h1o (hts (.fieldLink RX1 15 "DotStores$State" "live" "[J") (by decide +kernel)) dX1_takeDots_38 ?_
      refine lv_iload_n hx hb dX1_takeDots_41 rfl (lv_at hl 4 rfl) ?_
      refine g_lald hx hb hK hG hLol hKol (w) rfl (by rw [hnol]; omega) (by rw [hnol]; decide) dX1_takeDots_42 ?_
      refine lv_aload_n hx hb dX1_takeDots_43 rfl (lv_at hl 1 rfl) ?_
      refine r_State_seen hx hb hts (by decide +kernel) hown hK hG hLa hKa h0a (hts (.fieldLink RX1 9 "DotStores$State" "seen" "[J") (by decide +kernel)) dX1_takeDots_44 ?_
      refine lv_iload_n hx hb dX1_takeDots_47 rfl (lv_at hl 4 rfl) ?_
      refine g_lald hx hb hK hG hLbs hKbs (w) rfl (by rw [hnbs]; omega) (by rw [hnbs]; decide) dX1_takeDots_48 ?_
      refine lv_ldc2 (v := (-1)) hx hb hown (hts (.constantLong RX1 43 (-1)) (by decide +kernel)) dX1_takeDots_49 ?_
      refine lv_lxor hx hb dX1_takeDots_52 ?_
      refine lv_land hx hb dX1_takeDots_53 ?_
      refine lv_lor hx hb dX1_takeDots_54 ?_
      refine lv_topl (fun z1 ez1 => ?_)
      obtain rfl : z1 = jl (r1 bl w) (r1 bs w) (r1 ol w) (r1 os w) := ez1.trans (rfl)
      refine lv_lstore (lv' := [(6, .long (jl (r1 bl w) (r1 bs w) (r1 ol w) (r1 os w))), (4, .long ((r1 bl (w)) &&& ((r1 ol (w)) ||| ((r1 os (w)) ^^^ (-1))))), (0, .ref a), (1, .ref o), (2, .int (bi cg)), (3, .int (nI w))]) hx hb dX1_takeDots_55 hl (by decide) rfl (fun ls hl => ?_)
      refine lv_aload_n hx hb dX1_takeDots_57 rfl (lv_at hl 2 rfl) ?_
      refine r_State_seen hx hb hts (by decide +kernel) hown hK hG hLa hKa h0a (hts (.fieldLink RX1 9 "DotStores$State" "seen" "[J") (by decide +kernel)) dX1_takeDots_58 ?_
      refine lv_iload_n hx hb dX1_takeDots_61 rfl (lv_at hl 5 rfl) ?_
      refine g_lald hx hb hK hG hLbs hKbs (w) rfl (by rw [hnbs]; omega) (by rw [hnbs]; decide) dX1_takeDots_62 ?_
      refine lv_aload_n hx hb dX1_takeDots_63 rfl (lv_at hl 3 rfl) ?_
      refine r_State_seen hx hb hts (by decide +kernel) hown hK hG hLo hKo h0o (hts (.fieldLink RX1 9 "DotStores$State" "seen" "[J") (by decide +kernel)) dX1_takeDots_64 ?_
      refine lv_iload_n hx hb dX1_takeDots_67 rfl (lv_at hl 5 rfl) ?_
      refine g_lald hx hb hK hG hLos hKos (w) rfl (by rw [hnos]; omega) (by rw [hnos]; decide) dX1_takeDots_68 ?_
      refine lv_lor hx hb dX1_takeDots_69 ?_
      refine lv_lstore (lv' := [(8, .long ((r1 bs (w)) ||| (r1 os (w)))), (6, .long (jl (r1 bl w) (r1 bs w) (r1 ol w) (r1 os w))), (4, .long ((r1 bl (w)) &&& ((r1 ol (w)) ||| ((r1 os (w)) ^^^ (-1))))), (0, .ref a), (1, .ref o), (2, .int (bi cg)), (3, .int (nI w))]) hx hb dX1_takeDots_70 hl (by decide) rfl (fun ls hl => ?_)
      refine lv_lload hx hb dX1_takeDots_72 (lv_at hl 1 rfl) ?_
      refine lv_aload_n hx hb dX1_takeDots_74 rfl (lv_at hl 3 rfl) ?_
      refine r_State_live hx hb hts (by decide +kernel) hown hK hG hLa hKa h1a (hts (.fieldLink RX1 15 "DotStores$State" "live" "[J") (by decide +kernel)) dX1_takeDots_75 ?_
      refine lv_iload_n hx hb dX1_takeDots_78 rfl (lv_at hl 6 rfl) ?_
      refine g_lald hx hb hK hG hLbl hKbl (w) rfl (by rw [hnbl]; omega) (by rw [hnbl]; decide) dX1_takeDots_79 ?_
      refine W.lcmp hx hb dX1_takeDots_80 ?_
      refine lv_if_ne (tgt := 96) hx hb dX1_takeDots_81 (by decide) (fun c1 => ?_) (fun c1 => ?_)
      · have hc : ¬ jl (r1 bl w) (r1 bs w) (r1 ol w) (r1 os w) = r1 bl w ∨ ¬ (r1 bs w ||| r1 os w) = r1 bs w := Or.inl (fun z => c1 ((lg_cmp_eq _ _).mpr z))
        refine lv_iconst (v := 1) hx hb dX1_takeDots_96 (by decide) ?_
        refine lv_istore_n (lv' := [(2, .int 1), (8, .long ((r1 bs (w)) ||| (r1 os (w)))), (6, .long (jl (r1 bl w) (r1 bs w) (r1 ol w) (r1 os w))), (4, .long ((r1 bl (w)) &&& ((r1 ol (w)) ||| ((r1 os (w)) ^^^ (-1))))), (0, .ref a), (1, .ref o), (3, .int (nI w))]) hx hb dX1_takeDots_97 rfl hl (by decide) rfl (fun ls hl => ?_)
        refine lv_aload_n hx hb dX1_takeDots_98 rfl (lv_at hl 4 rfl) ?_
        refine r_State_live hx hb hts (by decide +kernel) hown hK hG hLa hKa h1a (hts (.fieldLink RX1 15 "DotStores$State" "live" "[J") (by decide +kernel)) dX1_takeDots_99 ?_
        refine lv_iload_n hx hb dX1_takeDots_102 rfl (lv_at hl 6 rfl) ?_
        refine lv_lload hx hb dX1_takeDots_103 (lv_at hl 2 rfl) ?_
        refine g_last hx hb hK hG hLbl hKbl (w) rfl (by rw [hnbl]; omega) (by rw [hnbl]; decide) dX1_takeDots_105 (fun H locs hG => ?_)
        refine lv_aload_n hx hb dX1_takeDots_106 rfl (lv_at hl 4 rfl) ?_
        refine r_State_seen hx hb hts (by decide +kernel) hown hK hG hLa hKa h0a (hts (.fieldLink RX1 9 "DotStores$State" "seen" "[J") (by decide +kernel)) dX1_takeDots_107 ?_
        refine lv_iload_n hx hb dX1_takeDots_110 rfl (lv_at hl 6 rfl) ?_
        refine lv_lload hx hb dX1_takeDots_111 (lv_at hl 1 rfl) ?_
        refine g_last hx hb hK hG hLbs hKbs (w) rfl (by rw [hnbs]; omega) (by rw [hnbs]; decide) dX1_takeDots_113 (fun H locs hG => ?_)
        refine lv_iinc (v := (nI (w + 1))) (lv' := [(3, .int (nI (w + 1))), (2, .int 1), (8, .long ((r1 bs (w)) ||| (r1 os (w)))), (6, .long (jl (r1 bl w) (r1 bs w) (r1 ol w) (r1 os w))), (4, .long ((r1 bl (w)) &&& ((r1 ol (w)) ||| ((r1 os (w)) ^^^ (-1))))), (0, .ref a), (1, .ref o)]) hx hb dX1_takeDots_114 hl (k := 6) rfl (nI_1 w) (by decide) rfl (fun ls hl => ?_)
        refine lv_goto (tgt := 4) hx hb dX1_takeDots_117 (by decide) ?_
        exact ih (w := w + 1) (cg := true) (hl := (lv_sub hl [5, 6, 1, 0] rfl)) (hG := hG) (inv := ⟨by omega, tD_s hne htd, td_t hne htd hc⟩) (hf := by omega)
      · have c1 := (lg_cmp_eq _ _).mp c1
        refine lv_lload hx hb dX1_takeDots_84 (lv_at hl 0 rfl) ?_
        refine lv_aload_n hx hb dX1_takeDots_86 rfl (lv_at hl 3 rfl) ?_
        refine r_State_seen hx hb hts (by decide +kernel) hown hK hG hLa hKa h0a (hts (.fieldLink RX1 9 "DotStores$State" "seen" "[J") (by decide +kernel)) dX1_takeDots_87 ?_
        refine lv_iload_n hx hb dX1_takeDots_90 rfl (lv_at hl 6 rfl) ?_
        refine g_lald hx hb hK hG hLbs hKbs (w) rfl (by rw [hnbs]; omega) (by rw [hnbs]; decide) dX1_takeDots_91 ?_
        refine W.lcmp hx hb dX1_takeDots_92 ?_
        refine lv_if_eq (tgt := 98) hx hb dX1_takeDots_93 (by decide) (fun c2 => ?_) (fun c2 => ?_)
        · have hc := And.intro c1 ((lg_cmp_eq _ _).mp c2)
          refine lv_aload_n hx hb dX1_takeDots_98 rfl (lv_at hl 3 rfl) ?_
          refine r_State_live hx hb hts (by decide +kernel) hown hK hG hLa hKa h1a (hts (.fieldLink RX1 15 "DotStores$State" "live" "[J") (by decide +kernel)) dX1_takeDots_99 ?_
          refine lv_iload_n hx hb dX1_takeDots_102 rfl (lv_at hl 6 rfl) ?_
          refine lv_lload hx hb dX1_takeDots_103 (lv_at hl 1 rfl) ?_
          refine g_last hx hb hK hG hLbl hKbl (w) rfl (by rw [hnbl]; omega) (by rw [hnbl]; decide) dX1_takeDots_105 (fun H locs hG => ?_)
          refine lv_aload_n hx hb dX1_takeDots_106 rfl (lv_at hl 3 rfl) ?_
          refine r_State_seen hx hb hts (by decide +kernel) hown hK hG hLa hKa h0a (hts (.fieldLink RX1 9 "DotStores$State" "seen" "[J") (by decide +kernel)) dX1_takeDots_107 ?_
          refine lv_iload_n hx hb dX1_takeDots_110 rfl (lv_at hl 6 rfl) ?_
          refine lv_lload hx hb dX1_takeDots_111 (lv_at hl 0 rfl) ?_
          refine g_last hx hb hK hG hLbs hKbs (w) rfl (by rw [hnbs]; omega) (by rw [hnbs]; decide) dX1_takeDots_113 (fun H locs hG => ?_)
          refine lv_iinc (v := (nI (w + 1))) (lv' := [(3, .int (nI (w + 1))), (8, .long ((r1 bs (w)) ||| (r1 os (w)))), (6, .long (jl (r1 bl w) (r1 bs w) (r1 ol w) (r1 os w))), (4, .long ((r1 bl (w)) &&& ((r1 ol (w)) ||| ((r1 os (w)) ^^^ (-1))))), (0, .ref a), (1, .ref o), (2, .int (bi cg))]) hx hb dX1_takeDots_114 hl (k := 6) rfl (nI_1 w) (by decide) rfl (fun ls hl => ?_)
          refine lv_goto (tgt := 4) hx hb dX1_takeDots_117 (by decide) ?_
          exact ih (w := w + 1) (cg := cg) (hl := (lv_sub hl [4, 5, 6, 0] rfl)) (hG := hG) (inv := ⟨by omega, tD_s hne htd, td_f hne htd hcg hc⟩) (hf := by omega)
        · have hc : ¬ jl (r1 bl w) (r1 bs w) (r1 ol w) (r1 os w) = r1 bl w ∨ ¬ (r1 bs w ||| r1 os w) = r1 bs w := Or.inr (fun z => c2 ((lg_cmp_eq _ _).mpr z))
          refine lv_iconst (v := 1) hx hb dX1_takeDots_96 (by decide) ?_
          refine lv_istore_n (lv' := [(2, .int 1), (8, .long ((r1 bs (w)) ||| (r1 os (w)))), (6, .long (jl (r1 bl w) (r1 bs w) (r1 ol w) (r1 os w))), (4, .long ((r1 bl (w)) &&& ((r1 ol (w)) ||| ((r1 os (w)) ^^^ (-1))))), (0, .ref a), (1, .ref o), (3, .int (nI w))]) hx hb dX1_takeDots_97 rfl hl (by decide) rfl (fun ls hl => ?_)
          refine lv_aload_n hx hb dX1_takeDots_98 rfl (lv_at hl 4 rfl) ?_
          refine r_State_live hx hb hts (by decide +kernel) hown hK hG hLa hKa h1a (hts (.fieldLink RX1 15 "DotStores$State" "live" "[J") (by decide +kernel)) dX1_takeDots_99 ?_
          refine lv_iload_n hx hb dX1_takeDots_102 rfl (lv_at hl 6 rfl) ?_
          refine lv_lload hx hb dX1_takeDots_103 (lv_at hl 2 rfl) ?_
          refine g_last hx hb hK hG hLbl hKbl (w) rfl (by rw [hnbl]; omega) (by rw [hnbl]; decide) dX1_takeDots_105 (fun H locs hG => ?_)
          refine lv_aload_n hx hb dX1_takeDots_106 rfl (lv_at hl 4 rfl) ?_
          refine r_State_seen hx hb hts (by decide +kernel) hown hK hG hLa hKa h0a (hts (.fieldLink RX1 9 "DotStores$State" "seen" "[J") (by decide +kernel)) dX1_takeDots_107 ?_
          refine lv_iload_n hx hb dX1_takeDots_110 rfl (lv_at hl 6 rfl) ?_
          refine lv_lload hx hb dX1_takeDots_111 (lv_at hl 1 rfl) ?_
          refine g_last hx hb hK hG hLbs hKbs (w) rfl (by rw [hnbs]; omega) (by rw [hnbs]; decide) dX1_takeDots_113 (fun H locs hG => ?_)
          refine lv_iinc (v := (nI (w + 1))) (lv' := [(3, .int (nI (w + 1))), (2, .int 1), (8, .long ((r1 bs (w)) ||| (r1 os (w)))), (6, .long (jl (r1 bl w) (r1 bs w) (r1 ol w) (r1 os w))), (4, .long ((r1 bl (w)) &&& ((r1 ol (w)) ||| ((r1 os (w)) ^^^ (-1))))), (0, .ref a), (1, .ref o)]) hx hb dX1_takeDots_114 hl (k := 6) rfl (nI_1 w) (by decide) rfl (fun ls hl => ?_)
          refine lv_goto (tgt := 4) hx hb dX1_takeDots_117 (by decide) ?_
          exact ih (w := w + 1) (cg := true) (hl := (lv_sub hl [5, 6, 1, 0] rfl)) (hG := hG) (inv := ⟨by omega, tD_s hne htd, td_t hne htd hc⟩) (hf := by omega)
set_option maxHeartbeats 4000000 in
set_option maxRecDepth 100000 in
/-- State.takeTwice(o) -/
theorem c_takeTwice (l : Launch) (G : gG) (base : Nat) {L : List Nat} {K n : Nat → Nat} {rI : Nat → Nat → Int32} {rJ : Nat → Nat → Int64} {rQ : Nat → Nat → Option Nat} {fI : Nat → Nat → Int32} {fR : Nat → Nat → Option Nat} {a bs bl bt o os ol ot : Nat} (hS : isSt L K n fR a bs bl bt) (hO : isSt L K n fR o os ol ot) : Met l yX1_takeTwice wsX1_takeTwice ({ frames := 0, cells := 0, slots := 0, locals := 0 }) (va_Pc [.ref a, .ref o] (g_Pr G base (L, K, n, rI, rJ, rQ, fI, fR))) (g_Qi G base (fun u : Bool × (Nat → Nat → Int32) => (L, K, n, rI, rJ, rQ, u.2, fR)) (fun r u => r = bi u.1 ∧ u.2 = g_up (g_up fI a 3 (fI a 3 ||| fI o 3)) a 4 (fI a 4 ||| fI o 4) ∧ (u.1 = false ↔ (fI a 3 ||| fI o 3) = fI a 3 ∧ (fI a 4 ||| fI o 4) = fI a 4))) 0 0 (g_A base) := by
  have hS0 := hS
  have hO0 := hO
  obtain ⟨hLa, hKa, h0a, h1a, h2a, hLbs, hKbs, hnbs, hLbl, hKbl, hnbl, hLbt, hKbt, hnbt⟩ := hS0
  obtain ⟨hLo, hKo, h0o, h1o, h2o, hLos, hKos, hnos, hLol, hKol, hnol, hLot, hKot, hnot⟩ := hO0
  refine Met.ofW (cc := cX1_takeTwice) (maxL := 5) (ret := (some .boolean)) (by decide) rfl ?_
  intro p e s m args below meth c s₁ B hml hv
  obtain ⟨rfl, hPr⟩ := hv
  have hx := B.exec
  have hb := B.bytes
  have hr := B.returns
  have hts := atoms_spec (ws := wsX1_takeTwice) B.pre
  have hown : s.vm.findClass RX1 = some m.cls := findClass_of_methodNamed B.named
  have hlocks := B.notSynchronized
  have hin : meth.name = "takeTwice" := (name_of_methodNamed B.named B.method).1
  have hK := hPr.2.2
  have hG := hPr.gw
  have hl := lv_entry ([.ref a, .ref o]) (n := 5) (Nat.le_of_ble_eq_true rfl)
  rw [lg_entry_eq]
  generalize (lg_sl ([.ref a, .ref o]) ++ List.replicate (5 - (lg_sl ([.ref a, .ref o])).length) Slot.unset).toArray = ls at hl ⊢
  have hl : lv_has ls 5 [(0, .ref a), (1, .ref o)] := hl
  refine g_start hPr (fun H locs hG => ?_)
  refine lv_aload_n hx hb dX1_takeTwice_0 rfl (lv_at hl 0 rfl) ?_
  refine r_State_put hx hb hts (by decide +kernel) hown hK hG hLa hKa (hts (.fieldLink RX1 22 "DotStores$State" "put" "I") (by decide +kernel)) dX1_takeTwice_1 ?_
  refine lv_aload_n hx hb dX1_takeTwice_4 rfl (lv_at hl 1 rfl) ?_
  refine r_State_put hx hb hts (by decide +kernel) hown hK hG hLo hKo (hts (.fieldLink RX1 22 "DotStores$State" "put" "I") (by decide +kernel)) dX1_takeTwice_5 ?_
  refine lv_ior hx hb dX1_takeTwice_8 ?_
  refine lv_istore_n (lv' := [(2, .int ((fI a 3) ||| (fI o 3))), (0, .ref a), (1, .ref o)]) hx hb dX1_takeTwice_9 rfl hl (by decide) rfl (fun ls hl => ?_)
  refine lv_aload_n hx hb dX1_takeTwice_10 rfl (lv_at hl 1 rfl) ?_
  refine r_State_taken hx hb hts (by decide +kernel) hown hK hG hLa hKa (hts (.fieldLink RX1 26 "DotStores$State" "taken" "I") (by decide +kernel)) dX1_takeTwice_11 ?_
  refine lv_aload_n hx hb dX1_takeTwice_14 rfl (lv_at hl 2 rfl) ?_
  refine r_State_taken hx hb hts (by decide +kernel) hown hK hG hLo hKo (hts (.fieldLink RX1 26 "DotStores$State" "taken" "I") (by decide +kernel)) dX1_takeTwice_15 ?_
  refine lv_ior hx hb dX1_takeTwice_18 ?_
  refine lv_istore_n (lv' := [(3, .int ((fI a 4) ||| (fI o 4))), (2, .int ((fI a 3) ||| (fI o 3))), (0, .ref a), (1, .ref o)]) hx hb dX1_takeTwice_19 rfl hl (by decide) rfl (fun ls hl => ?_)
  refine lv_iload_n hx hb dX1_takeTwice_20 rfl (lv_at hl 1 rfl) ?_
  refine lv_aload_n hx hb dX1_takeTwice_21 rfl (lv_at hl 2 rfl) ?_
  refine r_State_put hx hb hts (by decide +kernel) hown hK hG hLa hKa (hts (.fieldLink RX1 22 "DotStores$State" "put" "I") (by decide +kernel)) dX1_takeTwice_22 ?_
  refine lv_icmp_ne (tgt := 36) hx hb dX1_takeTwice_25 (by decide) (fun c1 => ?_) (fun c1 => ?_)
  · have hc : ¬ ((fI a 3 ||| fI o 3) = fI a 3 ∧ (fI a 4 ||| fI o 4) = fI a 4) := fun z => c1 z.1
    refine lv_iconst (v := 1) hx hb dX1_takeTwice_36 (by decide) ?_
    refine lv_goto (tgt := 41) hx hb dX1_takeTwice_37 (by decide) ?_
    refine lv_istore (lv' := [(4, .int 1), (3, .int ((fI a 4) ||| (fI o 4))), (2, .int ((fI a 3) ||| (fI o 3))), (0, .ref a), (1, .ref o)]) hx hb dX1_takeTwice_41 hl (by decide) rfl (fun ls hl => ?_)
    refine lv_aload_n hx hb dX1_takeTwice_43 rfl (lv_at hl 3 rfl) ?_
    refine lv_iload_n hx hb dX1_takeTwice_44 rfl (lv_at hl 2 rfl) ?_
    refine w_State_put hx hb hts (by decide +kernel) hown hK hG hLa hKa (hts (.fieldLink RX1 22 "DotStores$State" "put" "I") (by decide +kernel)) dX1_takeTwice_45 (fun H locs hG => ?_)
    refine lv_aload_n hx hb dX1_takeTwice_48 rfl (lv_at hl 3 rfl) ?_
    refine lv_iload_n hx hb dX1_takeTwice_49 rfl (lv_at hl 1 rfl) ?_
    refine w_State_taken hx hb hts (by decide +kernel) hown hK hG hLa hKa (hts (.fieldLink RX1 26 "DotStores$State" "taken" "I") (by decide +kernel)) dX1_takeTwice_50 (fun H locs hG => ?_)
    refine lv_iload hx hb dX1_takeTwice_53 (lv_at hl 0 rfl) ?_
    refine W.widen (k := 0) (n := 0) (by omega) (by omega) ?_
    exact W.zret (v := 1) hx hb hr rfl (fun t ht hW => ⟨⟨1, (true, _), rfl, ⟨rfl, rfl, ⟨fun q => (nomatch q), fun q => absurd q hc⟩⟩, hG.at ht⟩, hG.2.2.1.F ht⟩) hG.2.2.1.2.2 dX1_takeTwice_55
  · refine lv_iload_n hx hb dX1_takeTwice_28 rfl (lv_at hl 0 rfl) ?_
    refine lv_aload_n hx hb dX1_takeTwice_29 rfl (lv_at hl 2 rfl) ?_
    refine r_State_taken hx hb hts (by decide +kernel) hown hK hG hLa hKa (hts (.fieldLink RX1 26 "DotStores$State" "taken" "I") (by decide +kernel)) dX1_takeTwice_30 ?_
    refine lv_icmp_eq (tgt := 40) hx hb dX1_takeTwice_33 (by decide) (fun c2 => ?_) (fun c2 => ?_)
    · have hc : (fI a 3 ||| fI o 3) = fI a 3 ∧ (fI a 4 ||| fI o 4) = fI a 4 := ⟨c1, c2⟩
      refine lv_iconst (v := 0) hx hb dX1_takeTwice_40 (by decide) ?_
      refine lv_istore (lv' := [(4, .int 0), (3, .int ((fI a 4) ||| (fI o 4))), (2, .int ((fI a 3) ||| (fI o 3))), (0, .ref a), (1, .ref o)]) hx hb dX1_takeTwice_41 hl (by decide) rfl (fun ls hl => ?_)
      refine lv_aload_n hx hb dX1_takeTwice_43 rfl (lv_at hl 3 rfl) ?_
      refine lv_iload_n hx hb dX1_takeTwice_44 rfl (lv_at hl 2 rfl) ?_
      refine w_State_put hx hb hts (by decide +kernel) hown hK hG hLa hKa (hts (.fieldLink RX1 22 "DotStores$State" "put" "I") (by decide +kernel)) dX1_takeTwice_45 (fun H locs hG => ?_)
      refine lv_aload_n hx hb dX1_takeTwice_48 rfl (lv_at hl 3 rfl) ?_
      refine lv_iload_n hx hb dX1_takeTwice_49 rfl (lv_at hl 1 rfl) ?_
      refine w_State_taken hx hb hts (by decide +kernel) hown hK hG hLa hKa (hts (.fieldLink RX1 26 "DotStores$State" "taken" "I") (by decide +kernel)) dX1_takeTwice_50 (fun H locs hG => ?_)
      refine lv_iload hx hb dX1_takeTwice_53 (lv_at hl 0 rfl) ?_
      refine W.widen (k := 0) (n := 0) (by omega) (by omega) ?_
      exact W.zret (v := 0) hx hb hr rfl (fun t ht hW => ⟨⟨0, (false, _), rfl, ⟨rfl, rfl, ⟨fun _ => hc, fun _ => rfl⟩⟩, hG.at ht⟩, hG.2.2.1.F ht⟩) hG.2.2.1.2.2 dX1_takeTwice_55
    · have hc : ¬ ((fI a 3 ||| fI o 3) = fI a 3 ∧ (fI a 4 ||| fI o 4) = fI a 4) := fun z => c2 z.2
      refine lv_iconst (v := 1) hx hb dX1_takeTwice_36 (by decide) ?_
      refine lv_goto (tgt := 41) hx hb dX1_takeTwice_37 (by decide) ?_
      refine lv_istore (lv' := [(4, .int 1), (3, .int ((fI a 4) ||| (fI o 4))), (2, .int ((fI a 3) ||| (fI o 3))), (0, .ref a), (1, .ref o)]) hx hb dX1_takeTwice_41 hl (by decide) rfl (fun ls hl => ?_)
      refine lv_aload_n hx hb dX1_takeTwice_43 rfl (lv_at hl 3 rfl) ?_
      refine lv_iload_n hx hb dX1_takeTwice_44 rfl (lv_at hl 2 rfl) ?_
      refine w_State_put hx hb hts (by decide +kernel) hown hK hG hLa hKa (hts (.fieldLink RX1 22 "DotStores$State" "put" "I") (by decide +kernel)) dX1_takeTwice_45 (fun H locs hG => ?_)
      refine lv_aload_n hx hb dX1_takeTwice_48 rfl (lv_at hl 3 rfl) ?_
      refine lv_iload_n hx hb dX1_takeTwice_49 rfl (lv_at hl 1 rfl) ?_
      refine w_State_taken hx hb hts (by decide +kernel) hown hK hG hLa hKa (hts (.fieldLink RX1 26 "DotStores$State" "taken" "I") (by decide +kernel)) dX1_takeTwice_50 (fun H locs hG => ?_)
      refine lv_iload hx hb dX1_takeTwice_53 (lv_at hl 0 rfl) ?_
      refine W.widen (k := 0) (n := 0) (by omega) (by omega) ?_
      exact W.zret (v := 1) hx hb hr rfl (fun t ht hW => ⟨⟨1, (true, _), rfl, ⟨rfl, rfl, ⟨fun q => (nomatch q), fun q => absurd q hc⟩⟩, hG.at ht⟩, hG.2.2.1.F ht⟩) hG.2.2.1.2.2 dX1_takeTwice_55
set_option maxHeartbeats 4000000 in
set_option maxRecDepth 100000 in
/-- State.takeTimed(o) -/
theorem c_takeTimed (l : Launch) (G : gG) (base : Nat) {L : List Nat} {K n : Nat → Nat} {rI : Nat → Nat → Int32} {rJ : Nat → Nat → Int64} {rQ : Nat → Nat → Option Nat} {fI : Nat → Nat → Int32} {fR : Nat → Nat → Option Nat} {a bs bl bt o os ol ot : Nat} (hS : isSt L K n fR a bs bl bt) (hO : isSt L K n fR o os ol ot) : Met l yX1_takeTimed wsX1_takeTimed ({ frames := 0, cells := 0, slots := 0, locals := 0 }) (va_Pc [.ref a, .ref o] (g_Pr G base (L, K, n, rI, rJ, rQ, fI, fR))) (g_Qi G base (fun u : Bool × (Nat → Nat → Int32) => (L, K, n, u.2, rJ, rQ, fI, fR)) (fun r u => r = bi u.1 ∧ tT bt ot rI u.2 32 ∧ (u.1 = false ↔ ∀ j, j < 32 → u.2 bt j = rI bt j))) 0 0 (g_A base) := by
  have hS0 := hS
  have hO0 := hO
  obtain ⟨hLa, hKa, h0a, h1a, h2a, hLbs, hKbs, hnbs, hLbl, hKbl, hnbl, hLbt, hKbt, hnbt⟩ := hS0
  obtain ⟨hLo, hKo, h0o, h1o, h2o, hLos, hKos, hnos, hLol, hKol, hnol, hLot, hKot, hnot⟩ := hO0
  refine Met.ofW (cc := cX1_takeTimed) (maxL := 4) (ret := (some .boolean)) (by decide) rfl ?_
  intro p e s m args below meth c s₁ B hml hv
  obtain ⟨rfl, hPr⟩ := hv
  have hx := B.exec
  have hb := B.bytes
  have hr := B.returns
  have hts := atoms_spec (ws := wsX1_takeTimed) B.pre
  have hown : s.vm.findClass RX1 = some m.cls := findClass_of_methodNamed B.named
  have hlocks := B.notSynchronized
  have hin : meth.name = "takeTimed" := (name_of_methodNamed B.named B.method).1
  have hK := hPr.2.2
  have hG := hPr.gw
  have hl := lv_entry ([.ref a, .ref o]) (n := 4) (Nat.le_of_ble_eq_true rfl)
  rw [lg_entry_eq]
  generalize (lg_sl ([.ref a, .ref o]) ++ List.replicate (4 - (lg_sl ([.ref a, .ref o])).length) Slot.unset).toArray = ls at hl ⊢
  have hl : lv_has ls 4 [(0, .ref a), (1, .ref o)] := hl
  refine g_start hPr (fun H locs hG => ?_)
  refine lv_iconst (v := 0) hx hb dX1_takeTimed_0 (by decide) ?_
  refine lv_istore_n (lv' := [(2, .int 0), (0, .ref a), (1, .ref o)]) hx hb dX1_takeTimed_1 rfl hl (by decide) rfl (fun ls hl => ?_)
  refine lv_iconst (v := 0) hx hb dX1_takeTimed_2 (by decide) ?_
  refine lv_istore_n (lv' := [(3, .int 0), (2, .int 0), (0, .ref a), (1, .ref o)]) hx hb dX1_takeTimed_3 rfl hl (by decide) rfl (fun ls hl => ?_)
  obtain ⟨w, ew⟩ : ∃ z : Nat, z = 0 := ⟨_, rfl⟩
  obtain ⟨cg, ecg⟩ : ∃ z : Bool, z = false := ⟨_, rfl⟩
  obtain ⟨r1, er1⟩ : ∃ z : Nat → Nat → Int32, z = rI := ⟨_, rfl⟩
  replace hl : lv_has ls 4 [(0, .ref a), (1, .ref o), (2, .int (bi cg)), (3, .int (nI w))] := by subst ew ecg er1; exact (lv_sub hl [2, 3, 1, 0] rfl)
  replace hG : gw G base s.heap (L, K, n, r1, rJ, rQ, fI, fR) H locs := by subst ew ecg er1; exact hG
  have inv : w ≤ 32 ∧ tT bt ot rI r1 w ∧ (cg = false ↔ ∀ j, j < w → r1 bt j = rI bt j) := by
    subst ew ecg er1
    exact ⟨by omega, tT_0 _ _ _, fun _ j h => absurd h (Nat.not_lt_zero j), fun _ => rfl⟩
  have hf : 32 < w + 33 := by omega
  clear ew ecg er1
  generalize 33 = d at hf
  induction d generalizing w cg r1 H locs ls with
  | zero => exact absurd hf (by have := inv.1; omega)
  | succ d ih =>
    obtain ⟨hw, htt, hcg⟩ := inv
    refine lv_iload_n hx hb dX1_takeTimed_4 rfl (lv_at hl 3 rfl) ?_
    refine lv_bipush (v := 32) hx hb dX1_takeTimed_5 (by decide) ?_
    refine lv_icmp_ge (tgt := 45) hx hb dX1_takeTimed_7 (by decide) (fun c0 => ?_) (fun c0 => ?_)
    · have hw : w = 32 := by
        rcases Nat.lt_or_ge w 32 with q | q
        · exact absurd c0 (nI_ge q (by decide))
        · omega
      subst hw
      refine lv_iload_n hx hb dX1_takeTimed_45 rfl (lv_at hl 2 rfl) ?_
      refine W.widen (k := 0) (n := 0) (by omega) (by omega) ?_
      exact W.zret (v := (bi cg)) hx hb hr (bi_nar cg) (fun t ht hW => ⟨⟨(bi cg), (cg, r1), rfl, ⟨rfl, htt, hcg⟩, hG.at ht⟩, hG.2.2.1.F ht⟩) hG.2.2.1.2.2 dX1_takeTimed_46
    · have hw : w < 32 := by
        rcases Nat.lt_or_ge w 32 with q | q
        · exact q
        · exact absurd (nI_le (a := 32) q (by omega)) c0
      refine lv_aload_n hx hb dX1_takeTimed_10 rfl (lv_at hl 1 rfl) ?_
      refine r_State_stamps hx hb hts (by decide +kernel) hown hK hG hLo hKo h2o (hts (.fieldLink RX1 18 "DotStores$State" "stamps" "[I") (by decide +kernel)) dX1_takeTimed_11 ?_
      refine lv_iload_n hx hb dX1_takeTimed_14 rfl (lv_at hl 3 rfl) ?_
      refine g_iald hx hb hK hG hLot hKot (w) rfl (by rw [hnot]; omega) (by rw [hnot]; decide) dX1_takeTimed_15 ?_
      refine lv_aload_n hx hb dX1_takeTimed_16 rfl (lv_at hl 0 rfl) ?_
      refine r_State_stamps hx hb hts (by decide +kernel) hown hK hG hLa hKa h2a (hts (.fieldLink RX1 18 "DotStores$State" "stamps" "[I") (by decide +kernel)) dX1_takeTimed_17 ?_
      refine lv_iload_n hx hb dX1_takeTimed_20 rfl (lv_at hl 3 rfl) ?_
      refine g_iald hx hb hK hG hLbt hKbt (w) rfl (by rw [hnbt]; omega) (by rw [hnbt]; decide) dX1_takeTimed_21 ?_
      refine lv_icmp_le (tgt := 39) hx hb dX1_takeTimed_22 (by decide) (fun c1 => ?_) (fun c1 => ?_)
      · refine lv_iinc (v := (nI (w + 1))) (lv' := [(3, .int (nI (w + 1))), (0, .ref a), (1, .ref o), (2, .int (bi cg))]) hx hb dX1_takeTimed_39 hl (k := 3) rfl (nI_1 w) (by decide) rfl (fun ls hl => ?_)
        refine lv_goto (tgt := 4) hx hb dX1_takeTimed_42 (by decide) ?_
        exact ih (w := w + 1) (cg := cg) (hl := (lv_sub hl [1, 2, 3, 0] rfl)) (hG := hG) (inv := ⟨by omega, tT_n htt c1, tT_cf htt hcg⟩) (hf := by omega)
      · refine lv_aload_n hx hb dX1_takeTimed_25 rfl (lv_at hl 0 rfl) ?_
        refine r_State_stamps hx hb hts (by decide +kernel) hown hK hG hLa hKa h2a (hts (.fieldLink RX1 18 "DotStores$State" "stamps" "[I") (by decide +kernel)) dX1_takeTimed_26 ?_
        refine lv_iload_n hx hb dX1_takeTimed_29 rfl (lv_at hl 3 rfl) ?_
        refine lv_aload_n hx hb dX1_takeTimed_30 rfl (lv_at hl 1 rfl) ?_
        refine r_State_stamps hx hb hts (by decide +kernel) hown hK hG hLo hKo h2o (hts (.fieldLink RX1 18 "DotStores$State" "stamps" "[I") (by decide +kernel)) dX1_takeTimed_31 ?_
        refine lv_iload_n hx hb dX1_takeTimed_34 rfl (lv_at hl 3 rfl) ?_
        refine g_iald hx hb hK hG hLot hKot (w) rfl (by rw [hnot]; omega) (by rw [hnot]; decide) dX1_takeTimed_35 ?_
        refine g_iast hx hb hK hG hLbt hKbt (w) rfl (by rw [hnbt]; omega) (by rw [hnbt]; decide) dX1_takeTimed_36 (fun H locs hG => ?_)
        refine lv_iconst (v := 1) hx hb dX1_takeTimed_37 (by decide) ?_
        refine lv_istore_n (lv' := [(2, .int 1), (0, .ref a), (1, .ref o), (3, .int (nI w))]) hx hb dX1_takeTimed_38 rfl hl (by decide) rfl (fun ls hl => ?_)
        refine lv_iinc (v := (nI (w + 1))) (lv' := [(3, .int (nI (w + 1))), (2, .int 1), (0, .ref a), (1, .ref o)]) hx hb dX1_takeTimed_39 hl (k := 3) rfl (nI_1 w) (by decide) rfl (fun ls hl => ?_)
        refine lv_goto (tgt := 4) hx hb dX1_takeTimed_42 (by decide) ?_
        exact ih (w := w + 1) (cg := true) (hl := (lv_sub hl [2, 3, 1, 0] rfl)) (hG := hG) (inv := ⟨by omega, tT_w htt c1, tT_ct htt c1⟩) (hf := by omega)
set_option maxHeartbeats 4000000 in
set_option maxRecDepth 100000 in
/-- State.take(o): the join, and whether this became another state -/
theorem c_take (l : Launch) (G : gG) (base : Nat) {L : List Nat} {K n : Nat → Nat} {rI : Nat → Nat → Int32} {rJ : Nat → Nat → Int64} {rQ : Nat → Nat → Option Nat} {fI : Nat → Nat → Int32} {fR : Nat → Nat → Option Nat} {a bs bl bt o os ol ot : Nat} (hS : isSt L K n fR a bs bl bt) (hO : isSt L K n fR o os ol ot) (hne : bl ≠ bs) : Met l yX1_take wsX1_take ({ frames := 1, cells := 0, slots := 0, locals := 29 }) (va_Pc [.ref a, .ref o] (g_Pr G base (L, K, n, rI, rJ, rQ, fI, fR))) (g_Qi G base (fun u : Bool × (Nat → Nat → Int32) × (Nat → Nat → Int64) × (Nat → Nat → Int32) => (L, K, n, u.2.1, u.2.2.1, rQ, u.2.2.2, fR)) (fun r u => r = bi u.1 ∧ tD bs bl os ol rJ u.2.2.1 4 ∧ tT bt ot rI u.2.1 32 ∧ u.2.2.2 = g_up (g_up fI a 3 (fI a 3 ||| fI o 3)) a 4 (fI a 4 ||| fI o 4) ∧ (u.1 = false ↔ (∀ j, j < 4 → u.2.2.1 bl j = rJ bl j ∧ u.2.2.1 bs j = rJ bs j) ∧ ((fI a 3 ||| fI o 3) = fI a 3 ∧ (fI a 4 ||| fI o 4) = fI a 4) ∧ ∀ j, j < 32 → u.2.1 bt j = rI bt j))) 0 0 (g_A base) := by
  have hS0 := hS
  have hO0 := hO
  obtain ⟨hLa, hKa, h0a, h1a, h2a, hLbs, hKbs, hnbs, hLbl, hKbl, hnbl, hLbt, hKbt, hnbt⟩ := hS0
  obtain ⟨hLo, hKo, h0o, h1o, h2o, hLos, hKos, hnos, hLol, hKol, hnol, hLot, hKot, hnot⟩ := hO0
  refine Met.ofW (cc := cX1_take) (maxL := 5) (ret := (some .boolean)) (by decide) rfl ?_
  intro p e s m args below meth c s₁ B hml hv
  obtain ⟨rfl, hPr⟩ := hv
  have hx := B.exec
  have hb := B.bytes
  have hr := B.returns
  have hts := atoms_spec (ws := wsX1_take) B.pre
  have hown : s.vm.findClass RX1 = some m.cls := findClass_of_methodNamed B.named
  have hlocks := B.notSynchronized
  have hin : meth.name = "take" := (name_of_methodNamed B.named B.method).1
  have hK := hPr.2.2
  have hG := hPr.gw
  have hl := lv_entry ([.ref a, .ref o]) (n := 5) (Nat.le_of_ble_eq_true rfl)
  rw [lg_entry_eq]
  generalize (lg_sl ([.ref a, .ref o]) ++ List.replicate (5 - (lg_sl ([.ref a, .ref o])).length) Slot.unset).toArray = ls at hl ⊢
  have hl : lv_has ls 5 [(0, .ref a), (1, .ref o)] := hl
  refine g_start hPr (fun H locs hG => ?_)
  refine lv_aload_n hx hb dX1_take_0 rfl (lv_at hl 0 rfl) ?_
  refine lv_aload_n hx hb dX1_take_1 rfl (lv_at hl 1 rfl) ?_
  refine g_calli (va_runV (As := [.ref o]) (rest := []) ⟨hx, hb, hml, hown, hts⟩ (c_takeDots l G base hS hO hne) (cwV 1 hts gX1_take_X1_takeDots rfl rfl rfl (by decide +kernel) ⟨(Nat.le_of_ble_eq_true rfl), (Nat.le_of_ble_eq_true rfl)⟩) (g_pv1 hK hG hLa hKa) rfl rfl hl.1 rfl (lv_room (Nat.le_of_ble_eq_true rfl)) dX1_take_2 ⟨(Nat.le_of_ble_eq_true rfl), (Nat.le_of_ble_eq_true rfl)⟩) hG (fun r u H locs hp hG => ?_)
  obtain ⟨cg1, r1⟩ := u
  obtain ⟨rfl, htd, hcg1⟩ := hp
  replace hG : gw G base s.heap (L, K, n, rI, r1, rQ, fI, fR) H locs := hG
  refine lv_istore_n (lv' := [(2, .int (bi cg1)), (0, .ref a), (1, .ref o)]) hx hb dX1_take_5 rfl hl (by decide) rfl (fun ls hl => ?_)
  refine lv_aload_n hx hb dX1_take_6 rfl (lv_at hl 1 rfl) ?_
  refine lv_aload_n hx hb dX1_take_7 rfl (lv_at hl 2 rfl) ?_
  refine g_calli (va_runV (As := [.ref o]) (rest := []) ⟨hx, hb, hml, hown, hts⟩ (c_takeTwice l G base hS hO) (cwV 1 hts gX1_take_X1_takeTwice rfl rfl rfl (by decide +kernel) ⟨(Nat.le_of_ble_eq_true rfl), (Nat.le_of_ble_eq_true rfl)⟩) (g_pv1 hK hG hLa hKa) rfl rfl hl.1 rfl (lv_room (Nat.le_of_ble_eq_true rfl)) dX1_take_8 ⟨(Nat.le_of_ble_eq_true rfl), (Nat.le_of_ble_eq_true rfl)⟩) hG (fun r u H locs hp hG => ?_)
  obtain ⟨cg2, f2⟩ := u
  obtain ⟨rfl, hf2, hcg2⟩ := hp
  replace hG : gw G base s.heap (L, K, n, rI, r1, rQ, f2, fR) H locs := hG
  refine lv_istore_n (lv' := [(3, .int (bi cg2)), (2, .int (bi cg1)), (0, .ref a), (1, .ref o)]) hx hb dX1_take_11 rfl hl (by decide) rfl (fun ls hl => ?_)
  refine lv_aload_n hx hb dX1_take_12 rfl (lv_at hl 2 rfl) ?_
  refine lv_aload_n hx hb dX1_take_13 rfl (lv_at hl 3 rfl) ?_
  refine g_calli (va_runV (As := [.ref o]) (rest := []) ⟨hx, hb, hml, hown, hts⟩ (c_takeTimed l G base hS hO) (cwV 1 hts gX1_take_X1_takeTimed rfl rfl rfl (by decide +kernel) ⟨(Nat.le_of_ble_eq_true rfl), (Nat.le_of_ble_eq_true rfl)⟩) (g_pv1 hK hG hLa hKa) rfl rfl hl.1 rfl (lv_room (Nat.le_of_ble_eq_true rfl)) dX1_take_14 ⟨(Nat.le_of_ble_eq_true rfl), (Nat.le_of_ble_eq_true rfl)⟩) hG (fun r u H locs hp hG => ?_)
  obtain ⟨cg3, r3⟩ := u
  obtain ⟨rfl, htt, hcg3⟩ := hp
  replace hG : gw G base s.heap (L, K, n, r3, r1, rQ, f2, fR) H locs := hG
  refine lv_istore (lv' := [(4, .int (bi cg3)), (3, .int (bi cg2)), (2, .int (bi cg1)), (0, .ref a), (1, .ref o)]) hx hb dX1_take_17 hl (by decide) rfl (fun ls hl => ?_)
  refine lv_iload_n hx hb dX1_take_19 rfl (lv_at hl 2 rfl) ?_
  refine lv_if_ne (tgt := 32) hx hb dX1_take_20 (by decide) (fun c1 => ?_) (fun c1 => ?_)
  · have hc : ((∀ j, j < 4 → r1 bl j = rJ bl j ∧ r1 bs j = rJ bs j) ∧ ((fI a 3 ||| fI o 3) = fI a 3 ∧ (fI a 4 ||| fI o 4) = fI a 4) ∧ ∀ j, j < 32 → r3 bt j = rI bt j) → true = false := fun z => absurd (bi_0.mpr (hcg1.mpr z.1)) c1
    refine lv_iconst (v := 1) hx hb dX1_take_32 (by decide) ?_
    refine lv_goto (tgt := 37) hx hb dX1_take_33 (by decide) ?_
    refine W.widen (k := 0) (n := 0) (by omega) (by omega) ?_
    exact W.zret (v := 1) hx hb hr rfl (fun t ht hW => ⟨⟨1, (true, r3, r1, f2), rfl, ⟨rfl, htd, htt, hf2, ⟨fun q => (nomatch q), fun q => hc q⟩⟩, hG.at ht⟩, hG.2.2.1.F ht⟩) hG.2.2.1.2.2 dX1_take_37
  · have c1 := hcg1.mp (bi_0.mp c1)
    refine lv_iload_n hx hb dX1_take_23 rfl (lv_at hl 1 rfl) ?_
    refine lv_if_ne (tgt := 32) hx hb dX1_take_24 (by decide) (fun c2 => ?_) (fun c2 => ?_)
    · have hc : ((∀ j, j < 4 → r1 bl j = rJ bl j ∧ r1 bs j = rJ bs j) ∧ ((fI a 3 ||| fI o 3) = fI a 3 ∧ (fI a 4 ||| fI o 4) = fI a 4) ∧ ∀ j, j < 32 → r3 bt j = rI bt j) → true = false := fun z => absurd (bi_0.mpr (hcg2.mpr z.2.1)) c2
      refine lv_iconst (v := 1) hx hb dX1_take_32 (by decide) ?_
      refine lv_goto (tgt := 37) hx hb dX1_take_33 (by decide) ?_
      refine W.widen (k := 0) (n := 0) (by omega) (by omega) ?_
      exact W.zret (v := 1) hx hb hr rfl (fun t ht hW => ⟨⟨1, (true, r3, r1, f2), rfl, ⟨rfl, htd, htt, hf2, ⟨fun q => (nomatch q), fun q => hc q⟩⟩, hG.at ht⟩, hG.2.2.1.F ht⟩) hG.2.2.1.2.2 dX1_take_37
    · have c2 := hcg2.mp (bi_0.mp c2)
      refine lv_iload hx hb dX1_take_27 (lv_at hl 0 rfl) ?_
      refine lv_if_eq (tgt := 36) hx hb dX1_take_29 (by decide) (fun c3 => ?_) (fun c3 => ?_)
      · have hc : ((∀ j, j < 4 → r1 bl j = rJ bl j ∧ r1 bs j = rJ bs j) ∧ ((fI a 3 ||| fI o 3) = fI a 3 ∧ (fI a 4 ||| fI o 4) = fI a 4) ∧ ∀ j, j < 32 → r3 bt j = rI bt j) := ⟨c1, c2, hcg3.mp (bi_0.mp c3)⟩
        refine lv_iconst (v := 0) hx hb dX1_take_36 (by decide) ?_
        refine W.widen (k := 0) (n := 0) (by omega) (by omega) ?_
        exact W.zret (v := 0) hx hb hr rfl (fun t ht hW => ⟨⟨0, (false, r3, r1, f2), rfl, ⟨rfl, htd, htt, hf2, ⟨fun _ => hc, fun _ => rfl⟩⟩, hG.at ht⟩, hG.2.2.1.F ht⟩) hG.2.2.1.2.2 dX1_take_37
      · have hc : ((∀ j, j < 4 → r1 bl j = rJ bl j ∧ r1 bs j = rJ bs j) ∧ ((fI a 3 ||| fI o 3) = fI a 3 ∧ (fI a 4 ||| fI o 4) = fI a 4) ∧ ∀ j, j < 32 → r3 bt j = rI bt j) → true = false := fun z => absurd (bi_0.mpr (hcg3.mpr z.2.2)) c3
        refine lv_iconst (v := 1) hx hb dX1_take_32 (by decide) ?_
        refine lv_goto (tgt := 37) hx hb dX1_take_33 (by decide) ?_
        refine W.widen (k := 0) (n := 0) (by omega) (by omega) ?_
        exact W.zret (v := 1) hx hb hr rfl (fun t ht hW => ⟨⟨1, (true, r3, r1, f2), rfl, ⟨rfl, htd, htt, hf2, ⟨fun q => (nomatch q), fun q => hc q⟩⟩, hG.at ht⟩, hG.2.2.1.F ht⟩) hG.2.2.1.2.2 dX1_take_37
set_option maxHeartbeats 4000000 in
set_option maxRecDepth 100000 in
/-- State.become(o): a copy -/
theorem c_become (l : Launch) (G : gG) (base : Nat) {L : List Nat} {K n : Nat → Nat} {rI : Nat → Nat → Int32} {rJ : Nat → Nat → Int64} {rQ : Nat → Nat → Option Nat} {fI : Nat → Nat → Int32} {fR : Nat → Nat → Option Nat} {a bs bl bt o os ol ot : Nat} (hS : isSt L K n fR a bs bl bt) (hO : isSt L K n fR o os ol ot) : Met l yX1_become wsX1_become ({ frames := 1, cells := 0, slots := 0, locals := 40 }) (va_Pc [.ref a, .ref o] (g_Pr G base (L, K, n, rI, rJ, rQ, fI, fR))) (g_Qv G base (fun _ : Unit => (L, K, n, g_cp rI ot bt 32, g_cp (g_cp rJ os bs 4) ol bl 4, rQ, g_up (g_up fI a 3 (fI o 3)) a 4 (g_up fI a 3 (fI o 3) o 4), fR)) (fun _ => True)) 0 0 (g_A base) := by
  have hS0 := hS
  have hO0 := hO
  obtain ⟨hLa, hKa, h0a, h1a, h2a, hLbs, hKbs, hnbs, hLbl, hKbl, hnbl, hLbt, hKbt, hnbt⟩ := hS0
  obtain ⟨hLo, hKo, h0o, h1o, h2o, hLos, hKos, hnos, hLol, hKol, hnol, hLot, hKot, hnot⟩ := hO0
  refine Met.ofW (cc := cX1_become) (maxL := 2) (ret := none) (by decide) rfl ?_
  intro p e s m args below meth c s₁ B hml hv
  obtain ⟨rfl, hPr⟩ := hv
  have hx := B.exec
  have hb := B.bytes
  have hr := B.returns
  have hts := atoms_spec (ws := wsX1_become) B.pre
  have hown : s.vm.findClass RX1 = some m.cls := findClass_of_methodNamed B.named
  have hlocks := B.notSynchronized
  have hin : meth.name = "become" := (name_of_methodNamed B.named B.method).1
  have hK := hPr.2.2
  have hG := hPr.gw
  have hl := lv_entry ([.ref a, .ref o]) (n := 2) (Nat.le_of_ble_eq_true rfl)
  rw [lg_entry_eq]
  generalize (lg_sl ([.ref a, .ref o]) ++ List.replicate (2 - (lg_sl ([.ref a, .ref o])).length) Slot.unset).toArray = ls at hl ⊢
  have hl : lv_has ls 2 [(0, .ref a), (1, .ref o)] := hl
  refine g_start hPr (fun H locs hG => ?_)
  refine lv_aload_n hx hb dX1_become_0 rfl (lv_at hl 1 rfl) ?_
  refine r_State_seen hx hb hts (by decide +kernel) hown hK hG hLo hKo h0o (hts (.fieldLink RX1 9 "DotStores$State" "seen" "[J") (by decide +kernel)) dX1_become_1 ?_
  refine lv_iconst (v := 0) hx hb dX1_become_4 (by decide) ?_
  refine lv_aload_n hx hb dX1_become_5 rfl (lv_at hl 0 rfl) ?_
  refine r_State_seen hx hb hts (by decide +kernel) hown hK hG hLa hKa h0a (hts (.fieldLink RX1 9 "DotStores$State" "seen" "[J") (by decide +kernel)) dX1_become_6 ?_
  refine lv_iconst (v := 0) hx hb dX1_become_9 (by decide) ?_
  refine lv_iconst (v := 4) hx hb dX1_become_10 (by decide) ?_
  refine g_copyl hx hb (by rw [hml]; exact hl.1.symm) hown (hts (.methodLink RX1 45 arraycopyName) (by decide +kernel)) (hts (.native arraycopyName) (by decide +kernel)) (hts (.static arraycopyName) (by decide +kernel)) (hts (.initialized "java/lang/System") (by decide +kernel)) hK hG hLos hKos hLbs hKbs hnos hnbs rfl (by decide) (Nat.le_of_ble_eq_true rfl) (Nat.le_of_ble_eq_true rfl) dX1_become_11 (fun H locs hG => ?_)
  refine lv_aload_n hx hb dX1_become_14 rfl (lv_at hl 1 rfl) ?_
  refine r_State_live hx hb hts (by decide +kernel) hown hK hG hLo hKo h1o (hts (.fieldLink RX1 15 "DotStores$State" "live" "[J") (by decide +kernel)) dX1_become_15 ?_
  refine lv_iconst (v := 0) hx hb dX1_become_18 (by decide) ?_
  refine lv_aload_n hx hb dX1_become_19 rfl (lv_at hl 0 rfl) ?_
  refine r_State_live hx hb hts (by decide +kernel) hown hK hG hLa hKa h1a (hts (.fieldLink RX1 15 "DotStores$State" "live" "[J") (by decide +kernel)) dX1_become_20 ?_
  refine lv_iconst (v := 0) hx hb dX1_become_23 (by decide) ?_
  refine lv_iconst (v := 4) hx hb dX1_become_24 (by decide) ?_
  refine g_copyl hx hb (by rw [hml]; exact hl.1.symm) hown (hts (.methodLink RX1 45 arraycopyName) (by decide +kernel)) (hts (.native arraycopyName) (by decide +kernel)) (hts (.static arraycopyName) (by decide +kernel)) (hts (.initialized "java/lang/System") (by decide +kernel)) hK hG hLol hKol hLbl hKbl hnol hnbl rfl (by decide) (Nat.le_of_ble_eq_true rfl) (Nat.le_of_ble_eq_true rfl) dX1_become_25 (fun H locs hG => ?_)
  refine lv_aload_n hx hb dX1_become_28 rfl (lv_at hl 1 rfl) ?_
  refine r_State_stamps hx hb hts (by decide +kernel) hown hK hG hLo hKo h2o (hts (.fieldLink RX1 18 "DotStores$State" "stamps" "[I") (by decide +kernel)) dX1_become_29 ?_
  refine lv_iconst (v := 0) hx hb dX1_become_32 (by decide) ?_
  refine lv_aload_n hx hb dX1_become_33 rfl (lv_at hl 0 rfl) ?_
  refine r_State_stamps hx hb hts (by decide +kernel) hown hK hG hLa hKa h2a (hts (.fieldLink RX1 18 "DotStores$State" "stamps" "[I") (by decide +kernel)) dX1_become_34 ?_
  refine lv_iconst (v := 0) hx hb dX1_become_37 (by decide) ?_
  refine lv_bipush (v := 32) hx hb dX1_become_38 (by decide) ?_
  refine g_copyi hx hb (by rw [hml]; exact hl.1.symm) hown (hts (.methodLink RX1 45 arraycopyName) (by decide +kernel)) (hts (.native arraycopyName) (by decide +kernel)) (hts (.static arraycopyName) (by decide +kernel)) (hts (.initialized "java/lang/System") (by decide +kernel)) hK hG hLot hKot hLbt hKbt hnot hnbt rfl (by decide) (Nat.le_of_ble_eq_true rfl) (Nat.le_of_ble_eq_true rfl) dX1_become_40 (fun H locs hG => ?_)
  refine lv_aload_n hx hb dX1_become_43 rfl (lv_at hl 0 rfl) ?_
  refine lv_aload_n hx hb dX1_become_44 rfl (lv_at hl 1 rfl) ?_
  refine r_State_put hx hb hts (by decide +kernel) hown hK hG hLo hKo (hts (.fieldLink RX1 22 "DotStores$State" "put" "I") (by decide +kernel)) dX1_become_45 ?_
  refine w_State_put hx hb hts (by decide +kernel) hown hK hG hLa hKa (hts (.fieldLink RX1 22 "DotStores$State" "put" "I") (by decide +kernel)) dX1_become_48 (fun H locs hG => ?_)
  refine lv_aload_n hx hb dX1_become_51 rfl (lv_at hl 0 rfl) ?_
  refine lv_aload_n hx hb dX1_become_52 rfl (lv_at hl 1 rfl) ?_
  refine r_State_taken hx hb hts (by decide +kernel) hown hK hG hLo hKo (hts (.fieldLink RX1 26 "DotStores$State" "taken" "I") (by decide +kernel)) dX1_become_53 ?_
  refine w_State_taken hx hb hts (by decide +kernel) hown hK hG hLa hKa (hts (.fieldLink RX1 26 "DotStores$State" "taken" "I") (by decide +kernel)) dX1_become_56 (fun H locs hG => ?_)
  refine W.widen (k := 0) (n := 0) (by omega) (by omega) ?_
  exact W.vret hx hb hr (fun t ht hW => ⟨⟨(), rfl, trivial, hG.at ht⟩, hG.2.2.1.F ht⟩) hG.2.2.1.2.2 dX1_become_59
set_option maxHeartbeats 4000000 in
set_option maxRecDepth 100000 in
/-- State.isLike(o) -/
theorem c_isLike (l : Launch) (G : gG) (base : Nat) {L : List Nat} {K n : Nat → Nat} {rI : Nat → Nat → Int32} {rJ : Nat → Nat → Int64} {rQ : Nat → Nat → Option Nat} {fI : Nat → Nat → Int32} {fR : Nat → Nat → Option Nat} {a bs bl bt o os ol ot : Nat} (hS : isSt L K n fR a bs bl bt) (hO : isSt L K n fR o os ol ot) : Met l yX1_isLike wsX1_isLike ({ frames := 0, cells := 0, slots := 0, locals := 0 }) (va_Pc [.ref a, .ref o] (g_Pr G base (L, K, n, rI, rJ, rQ, fI, fR))) (g_Qi G base (fun _ : Bool => (L, K, n, rI, rJ, rQ, fI, fR)) (fun r u => r = bi u ∧ (u = true ↔ (fI a 3 = fI o 3 ∧ fI a 4 = fI o 4) ∧ (∀ j, j < 4 → rJ bs j = rJ os j ∧ rJ bl j = rJ ol j) ∧ ∀ j, j < 32 → rI bt j = rI ot j))) 0 0 (g_A base) := by
  have hS0 := hS
  have hO0 := hO
  obtain ⟨hLa, hKa, h0a, h1a, h2a, hLbs, hKbs, hnbs, hLbl, hKbl, hnbl, hLbt, hKbt, hnbt⟩ := hS0
  obtain ⟨hLo, hKo, h0o, h1o, h2o, hLos, hKos, hnos, hLol, hKol, hnol, hLot, hKot, hnot⟩ := hO0
  refine Met.ofW (cc := cX1_isLike) (maxL := 4) (ret := (some .boolean)) (by decide) rfl ?_
  intro p e s m args below meth c s₁ B hml hv
  obtain ⟨rfl, hPr⟩ := hv
  have hx := B.exec
  have hb := B.bytes
  have hr := B.returns
  have hts := atoms_spec (ws := wsX1_isLike) B.pre
  have hown : s.vm.findClass RX1 = some m.cls := findClass_of_methodNamed B.named
  have hlocks := B.notSynchronized
  have hin : meth.name = "isLike" := (name_of_methodNamed B.named B.method).1
  have hK := hPr.2.2
  have hG := hPr.gw
  have hl := lv_entry ([.ref a, .ref o]) (n := 4) (Nat.le_of_ble_eq_true rfl)
  rw [lg_entry_eq]
  generalize (lg_sl ([.ref a, .ref o]) ++ List.replicate (4 - (lg_sl ([.ref a, .ref o])).length) Slot.unset).toArray = ls at hl ⊢
  have hl : lv_has ls 4 [(0, .ref a), (1, .ref o)] := hl
  refine g_start hPr (fun H locs hG => ?_)
  refine lv_aload_n hx hb dX1_isLike_0 rfl (lv_at hl 0 rfl) ?_
  refine r_State_put hx hb hts (by decide +kernel) hown hK hG hLa hKa (hts (.fieldLink RX1 22 "DotStores$State" "put" "I") (by decide +kernel)) dX1_isLike_1 ?_
  refine lv_aload_n hx hb dX1_isLike_4 rfl (lv_at hl 1 rfl) ?_
  refine r_State_put hx hb hts (by decide +kernel) hown hK hG hLo hKo (hts (.fieldLink RX1 22 "DotStores$State" "put" "I") (by decide +kernel)) dX1_isLike_5 ?_
  refine lv_icmp_ne (tgt := 26) hx hb dX1_isLike_8 (by decide) (fun c1 => ?_) (fun c1 => ?_)
  · have hc : ¬ (fI a 3 = fI o 3 ∧ fI a 4 = fI o 4) := fun z => c1 z.1
    refine lv_iconst (v := 0) hx hb dX1_isLike_26 (by decide) ?_
    refine lv_istore_n (lv' := [(2, .int 0), (0, .ref a), (1, .ref o)]) hx hb dX1_isLike_27 rfl hl (by decide) rfl (fun ls hl => ?_)
    refine lv_iconst (v := 0) hx hb dX1_isLike_28 (by decide) ?_
    refine lv_istore_n (lv' := [(3, .int 0), (2, .int 0), (0, .ref a), (1, .ref o)]) hx hb dX1_isLike_29 rfl hl (by decide) rfl (fun ls hl => ?_)
    obtain ⟨w, ew⟩ : ∃ z : Nat, z = 0 := ⟨_, rfl⟩
    obtain ⟨lk, elk⟩ : ∃ z : Bool, z = false := ⟨_, rfl⟩
    replace hl : lv_has ls 4 [(0, .ref a), (1, .ref o), (2, .int (bi lk)), (3, .int (nI w))] := by subst ew elk; exact (lv_sub hl [2, 3, 1, 0] rfl)
    have inv : w ≤ 4 ∧ (lk = true ↔ (fI a 3 = fI o 3 ∧ fI a 4 = fI o 4) ∧ ∀ j, j < w → rJ bs j = rJ os j ∧ rJ bl j = rJ ol j) := by
      subst ew elk
      exact ⟨by omega, fun q => (nomatch q), fun q => absurd q.1 hc⟩
    have hf : 4 < w + 5 := by omega
    clear ew elk
    generalize 5 = d at hf
    induction d generalizing w lk H locs ls with
    | zero => exact absurd hf (by have := inv.1; omega)
    | succ d ih =>
      obtain ⟨hw, hlk⟩ := inv
      refine lv_iload_n hx hb dX1_isLike_30 rfl (lv_at hl 3 rfl) ?_
      refine lv_iconst (v := 4) hx hb dX1_isLike_31 (by decide) ?_
      refine lv_icmp_ge (tgt := 83) hx hb dX1_isLike_32 (by decide) (fun c0 => ?_) (fun c0 => ?_)
      · have hw : w = 4 := by
          rcases Nat.lt_or_ge w 4 with q | q
          · exact absurd c0 (nI_ge q (by decide))
          · omega
        subst hw
        refine lv_iconst (v := 0) hx hb dX1_isLike_83 (by decide) ?_
        refine lv_istore_n (lv' := [(3, .int 0), (0, .ref a), (1, .ref o), (2, .int (bi lk))]) hx hb dX1_isLike_84 rfl hl (by decide) rfl (fun ls hl => ?_)
        clear ih hf
        obtain ⟨w, ew⟩ : ∃ z : Nat, z = 0 := ⟨_, rfl⟩
        obtain ⟨l2, el2⟩ : ∃ z : Bool, z = lk := ⟨_, rfl⟩
        replace hl : lv_has ls 4 [(0, .ref a), (1, .ref o), (2, .int (bi l2)), (3, .int (nI w))] := by subst ew el2; exact (lv_sub hl [1, 2, 3, 0] rfl)
        have inv : w ≤ 32 ∧ (l2 = true ↔ lk = true ∧ ∀ j, j < w → rI bt j = rI ot j) := by
          subst ew el2
          exact ⟨by omega, fun q => ⟨q, fun j h => absurd h (Nat.not_lt_zero j)⟩, fun q => q.1⟩
        have hf : 32 < w + 33 := by omega
        clear ew el2
        generalize 33 = d at hf
        induction d generalizing w l2 H locs ls with
        | zero => exact absurd hf (by have := inv.1; omega)
        | succ d ih =>
          obtain ⟨hw2, hl2⟩ := inv
          refine lv_iload_n hx hb dX1_isLike_85 rfl (lv_at hl 3 rfl) ?_
          refine lv_bipush (v := 32) hx hb dX1_isLike_86 (by decide) ?_
          refine lv_icmp_ge (tgt := 122) hx hb dX1_isLike_88 (by decide) (fun c0 => ?_) (fun c0 => ?_)
          · have hw : w = 32 := by
              rcases Nat.lt_or_ge w 32 with q | q
              · exact absurd c0 (nI_ge q (by decide))
              · omega
            subst hw
            refine lv_iload_n hx hb dX1_isLike_122 rfl (lv_at hl 2 rfl) ?_
            refine W.widen (k := 0) (n := 0) (by omega) (by omega) ?_
            exact W.zret (v := (bi l2)) hx hb hr (bi_nar l2) (fun t ht hW => ⟨⟨(bi l2), l2, rfl, ⟨rfl, by rw [hl2, hlk]; exact ⟨fun q => ⟨q.1.1, q.1.2, q.2⟩, fun q => ⟨⟨q.1, q.2.1⟩, q.2.2⟩⟩⟩, hG.at ht⟩, hG.2.2.1.F ht⟩) hG.2.2.1.2.2 dX1_isLike_123
          · have hw : w < 32 := by
              rcases Nat.lt_or_ge w 32 with q | q
              · exact q
              · exact absurd (nI_le (a := 32) q (by omega)) c0
            refine lv_iload_n hx hb dX1_isLike_91 rfl (lv_at hl 2 rfl) ?_
            refine lv_if_eq (tgt := 114) hx hb dX1_isLike_92 (by decide) (fun c1 => ?_) (fun c1 => ?_)
            · have hd : ¬ (l2 = true ∧ rI bt w = rI ot w) := fun z => absurd (bi_0.mp c1) (by rw [z.1]; decide)
              refine lv_iconst (v := 0) hx hb dX1_isLike_114 (by decide) ?_
              refine lv_istore_n (lv' := [(2, .int 0), (0, .ref a), (1, .ref o), (3, .int (nI w))]) hx hb dX1_isLike_115 rfl hl (by decide) rfl (fun ls hl => ?_)
              refine lv_iinc (v := (nI (w + 1))) (lv' := [(3, .int (nI (w + 1))), (2, .int 0), (0, .ref a), (1, .ref o)]) hx hb dX1_isLike_116 hl (k := 3) rfl (nI_1 w) (by decide) rfl (fun ls hl => ?_)
              refine lv_goto (tgt := 85) hx hb dX1_isLike_119 (by decide) ?_
              exact ih (w := w + 1) (l2 := false) (hl := (lv_sub hl [2, 3, 1, 0] rfl)) (hG := hG) (inv := ⟨by omega, il_f2 hl2 hd⟩) (hf := by omega)
            · have c1 := ts_nf (fun z => c1 (bi_0.mpr z))
              refine lv_aload_n hx hb dX1_isLike_95 rfl (lv_at hl 0 rfl) ?_
              refine r_State_stamps hx hb hts (by decide +kernel) hown hK hG hLa hKa h2a (hts (.fieldLink RX1 18 "DotStores$State" "stamps" "[I") (by decide +kernel)) dX1_isLike_96 ?_
              refine lv_iload_n hx hb dX1_isLike_99 rfl (lv_at hl 3 rfl) ?_
              refine g_iald hx hb hK hG hLbt hKbt (w) rfl (by rw [hnbt]; omega) (by rw [hnbt]; decide) dX1_isLike_100 ?_
              refine lv_aload_n hx hb dX1_isLike_101 rfl (lv_at hl 1 rfl) ?_
              refine r_State_stamps hx hb hts (by decide +kernel) hown hK hG hLo hKo h2o (hts (.fieldLink RX1 18 "DotStores$State" "stamps" "[I") (by decide +kernel)) dX1_isLike_102 ?_
              refine lv_iload_n hx hb dX1_isLike_105 rfl (lv_at hl 3 rfl) ?_
              refine g_iald hx hb hK hG hLot hKot (w) rfl (by rw [hnot]; omega) (by rw [hnot]; decide) dX1_isLike_106 ?_
              refine lv_icmp_ne (tgt := 114) hx hb dX1_isLike_107 (by decide) (fun c2 => ?_) (fun c2 => ?_)
              · have hd : ¬ (l2 = true ∧ rI bt w = rI ot w) := fun z => c2 z.2
                refine lv_iconst (v := 0) hx hb dX1_isLike_114 (by decide) ?_
                refine lv_istore_n (lv' := [(2, .int 0), (0, .ref a), (1, .ref o), (3, .int (nI w))]) hx hb dX1_isLike_115 rfl hl (by decide) rfl (fun ls hl => ?_)
                refine lv_iinc (v := (nI (w + 1))) (lv' := [(3, .int (nI (w + 1))), (2, .int 0), (0, .ref a), (1, .ref o)]) hx hb dX1_isLike_116 hl (k := 3) rfl (nI_1 w) (by decide) rfl (fun ls hl => ?_)
                refine lv_goto (tgt := 85) hx hb dX1_isLike_119 (by decide) ?_
                exact ih (w := w + 1) (l2 := false) (hl := (lv_sub hl [2, 3, 1, 0] rfl)) (hG := hG) (inv := ⟨by omega, il_f2 hl2 hd⟩) (hf := by omega)
              · refine lv_iconst (v := 1) hx hb dX1_isLike_110 (by decide) ?_
                refine lv_goto (tgt := 115) hx hb dX1_isLike_111 (by decide) ?_
                refine lv_istore_n (lv' := [(2, .int 1), (0, .ref a), (1, .ref o), (3, .int (nI w))]) hx hb dX1_isLike_115 rfl hl (by decide) rfl (fun ls hl => ?_)
                refine lv_iinc (v := (nI (w + 1))) (lv' := [(3, .int (nI (w + 1))), (2, .int 1), (0, .ref a), (1, .ref o)]) hx hb dX1_isLike_116 hl (k := 3) rfl (nI_1 w) (by decide) rfl (fun ls hl => ?_)
                refine lv_goto (tgt := 85) hx hb dX1_isLike_119 (by decide) ?_
                exact ih (w := w + 1) (l2 := true) (hl := (lv_sub hl [2, 3, 1, 0] rfl)) (hG := hG) (inv := ⟨by omega, il_t2 hl2 c1 c2⟩) (hf := by omega)
      · have hw : w < 4 := by
          rcases Nat.lt_or_ge w 4 with q | q
          · exact q
          · exact absurd (nI_le (a := 4) q (by omega)) c0
        refine lv_iload_n hx hb dX1_isLike_35 rfl (lv_at hl 2 rfl) ?_
        refine lv_if_eq (tgt := 75) hx hb dX1_isLike_36 (by decide) (fun c1 => ?_) (fun c1 => ?_)
        · have hd : ¬ (lk = true ∧ rJ bs w = rJ os w ∧ rJ bl w = rJ ol w) := fun z => absurd (bi_0.mp c1) (by rw [z.1]; decide)
          refine lv_iconst (v := 0) hx hb dX1_isLike_75 (by decide) ?_
          refine lv_istore_n (lv' := [(2, .int 0), (0, .ref a), (1, .ref o), (3, .int (nI w))]) hx hb dX1_isLike_76 rfl hl (by decide) rfl (fun ls hl => ?_)
          refine lv_iinc (v := (nI (w + 1))) (lv' := [(3, .int (nI (w + 1))), (2, .int 0), (0, .ref a), (1, .ref o)]) hx hb dX1_isLike_77 hl (k := 3) rfl (nI_1 w) (by decide) rfl (fun ls hl => ?_)
          refine lv_goto (tgt := 30) hx hb dX1_isLike_80 (by decide) ?_
          exact ih (w := w + 1) (lk := false) (hl := (lv_sub hl [2, 3, 1, 0] rfl)) (hG := hG) (inv := ⟨by omega, il_f hlk hd⟩) (hf := by omega)
        · have c1 := ts_nf (fun z => c1 (bi_0.mpr z))
          refine lv_aload_n hx hb dX1_isLike_39 rfl (lv_at hl 0 rfl) ?_
          refine r_State_seen hx hb hts (by decide +kernel) hown hK hG hLa hKa h0a (hts (.fieldLink RX1 9 "DotStores$State" "seen" "[J") (by decide +kernel)) dX1_isLike_40 ?_
          refine lv_iload_n hx hb dX1_isLike_43 rfl (lv_at hl 3 rfl) ?_
          refine g_lald hx hb hK hG hLbs hKbs (w) rfl (by rw [hnbs]; omega) (by rw [hnbs]; decide) dX1_isLike_44 ?_
          refine lv_aload_n hx hb dX1_isLike_45 rfl (lv_at hl 1 rfl) ?_
          refine r_State_seen hx hb hts (by decide +kernel) hown hK hG hLo hKo h0o (hts (.fieldLink RX1 9 "DotStores$State" "seen" "[J") (by decide +kernel)) dX1_isLike_46 ?_
          refine lv_iload_n hx hb dX1_isLike_49 rfl (lv_at hl 3 rfl) ?_
          refine g_lald hx hb hK hG hLos hKos (w) rfl (by rw [hnos]; omega) (by rw [hnos]; decide) dX1_isLike_50 ?_
          refine W.lcmp hx hb dX1_isLike_51 ?_
          refine lv_if_ne (tgt := 75) hx hb dX1_isLike_52 (by decide) (fun c2 => ?_) (fun c2 => ?_)
          · have hd : ¬ (lk = true ∧ rJ bs w = rJ os w ∧ rJ bl w = rJ ol w) := fun z => c2 ((lg_cmp_eq _ _).mpr z.2.1)
            refine lv_iconst (v := 0) hx hb dX1_isLike_75 (by decide) ?_
            refine lv_istore_n (lv' := [(2, .int 0), (0, .ref a), (1, .ref o), (3, .int (nI w))]) hx hb dX1_isLike_76 rfl hl (by decide) rfl (fun ls hl => ?_)
            refine lv_iinc (v := (nI (w + 1))) (lv' := [(3, .int (nI (w + 1))), (2, .int 0), (0, .ref a), (1, .ref o)]) hx hb dX1_isLike_77 hl (k := 3) rfl (nI_1 w) (by decide) rfl (fun ls hl => ?_)
            refine lv_goto (tgt := 30) hx hb dX1_isLike_80 (by decide) ?_
            exact ih (w := w + 1) (lk := false) (hl := (lv_sub hl [2, 3, 1, 0] rfl)) (hG := hG) (inv := ⟨by omega, il_f hlk hd⟩) (hf := by omega)
          · have c2 := (lg_cmp_eq _ _).mp c2
            refine lv_aload_n hx hb dX1_isLike_55 rfl (lv_at hl 0 rfl) ?_
            refine r_State_live hx hb hts (by decide +kernel) hown hK hG hLa hKa h1a (hts (.fieldLink RX1 15 "DotStores$State" "live" "[J") (by decide +kernel)) dX1_isLike_56 ?_
            refine lv_iload_n hx hb dX1_isLike_59 rfl (lv_at hl 3 rfl) ?_
            refine g_lald hx hb hK hG hLbl hKbl (w) rfl (by rw [hnbl]; omega) (by rw [hnbl]; decide) dX1_isLike_60 ?_
            refine lv_aload_n hx hb dX1_isLike_61 rfl (lv_at hl 1 rfl) ?_
            refine r_State_live hx hb hts (by decide +kernel) hown hK hG hLo hKo h1o (hts (.fieldLink RX1 15 "DotStores$State" "live" "[J") (by decide +kernel)) dX1_isLike_62 ?_
            refine lv_iload_n hx hb dX1_isLike_65 rfl (lv_at hl 3 rfl) ?_
            refine g_lald hx hb hK hG hLol hKol (w) rfl (by rw [hnol]; omega) (by rw [hnol]; decide) dX1_isLike_66 ?_
            refine W.lcmp hx hb dX1_isLike_67 ?_
            refine lv_if_ne (tgt := 75) hx hb dX1_isLike_68 (by decide) (fun c3 => ?_) (fun c3 => ?_)
            · have hd : ¬ (lk = true ∧ rJ bs w = rJ os w ∧ rJ bl w = rJ ol w) := fun z => c3 ((lg_cmp_eq _ _).mpr z.2.2)
              refine lv_iconst (v := 0) hx hb dX1_isLike_75 (by decide) ?_
              refine lv_istore_n (lv' := [(2, .int 0), (0, .ref a), (1, .ref o), (3, .int (nI w))]) hx hb dX1_isLike_76 rfl hl (by decide) rfl (fun ls hl => ?_)
              refine lv_iinc (v := (nI (w + 1))) (lv' := [(3, .int (nI (w + 1))), (2, .int 0), (0, .ref a), (1, .ref o)]) hx hb dX1_isLike_77 hl (k := 3) rfl (nI_1 w) (by decide) rfl (fun ls hl => ?_)
              refine lv_goto (tgt := 30) hx hb dX1_isLike_80 (by decide) ?_
              exact ih (w := w + 1) (lk := false) (hl := (lv_sub hl [2, 3, 1, 0] rfl)) (hG := hG) (inv := ⟨by omega, il_f hlk hd⟩) (hf := by omega)
            · have c3 := (lg_cmp_eq _ _).mp c3
              refine lv_iconst (v := 1) hx hb dX1_isLike_71 (by decide) ?_
              refine lv_goto (tgt := 76) hx hb dX1_isLike_72 (by decide) ?_
              refine lv_istore_n (lv' := [(2, .int 1), (0, .ref a), (1, .ref o), (3, .int (nI w))]) hx hb dX1_isLike_76 rfl hl (by decide) rfl (fun ls hl => ?_)
              refine lv_iinc (v := (nI (w + 1))) (lv' := [(3, .int (nI (w + 1))), (2, .int 1), (0, .ref a), (1, .ref o)]) hx hb dX1_isLike_77 hl (k := 3) rfl (nI_1 w) (by decide) rfl (fun ls hl => ?_)
              refine lv_goto (tgt := 30) hx hb dX1_isLike_80 (by decide) ?_
              exact ih (w := w + 1) (lk := true) (hl := (lv_sub hl [2, 3, 1, 0] rfl)) (hG := hG) (inv := ⟨by omega, il_t hlk c1 c2 c3⟩) (hf := by omega)
  · refine lv_aload_n hx hb dX1_isLike_11 rfl (lv_at hl 0 rfl) ?_
    refine r_State_taken hx hb hts (by decide +kernel) hown hK hG hLa hKa (hts (.fieldLink RX1 26 "DotStores$State" "taken" "I") (by decide +kernel)) dX1_isLike_12 ?_
    refine lv_aload_n hx hb dX1_isLike_15 rfl (lv_at hl 1 rfl) ?_
    refine r_State_taken hx hb hts (by decide +kernel) hown hK hG hLo hKo (hts (.fieldLink RX1 26 "DotStores$State" "taken" "I") (by decide +kernel)) dX1_isLike_16 ?_
    refine lv_icmp_ne (tgt := 26) hx hb dX1_isLike_19 (by decide) (fun c2 => ?_) (fun c2 => ?_)
    · have hc : ¬ (fI a 3 = fI o 3 ∧ fI a 4 = fI o 4) := fun z => c2 z.2
      refine lv_iconst (v := 0) hx hb dX1_isLike_26 (by decide) ?_
      refine lv_istore_n (lv' := [(2, .int 0), (0, .ref a), (1, .ref o)]) hx hb dX1_isLike_27 rfl hl (by decide) rfl (fun ls hl => ?_)
      refine lv_iconst (v := 0) hx hb dX1_isLike_28 (by decide) ?_
      refine lv_istore_n (lv' := [(3, .int 0), (2, .int 0), (0, .ref a), (1, .ref o)]) hx hb dX1_isLike_29 rfl hl (by decide) rfl (fun ls hl => ?_)
      obtain ⟨w, ew⟩ : ∃ z : Nat, z = 0 := ⟨_, rfl⟩
      obtain ⟨lk, elk⟩ : ∃ z : Bool, z = false := ⟨_, rfl⟩
      replace hl : lv_has ls 4 [(0, .ref a), (1, .ref o), (2, .int (bi lk)), (3, .int (nI w))] := by subst ew elk; exact (lv_sub hl [2, 3, 1, 0] rfl)
      have inv : w ≤ 4 ∧ (lk = true ↔ (fI a 3 = fI o 3 ∧ fI a 4 = fI o 4) ∧ ∀ j, j < w → rJ bs j = rJ os j ∧ rJ bl j = rJ ol j) := by
        subst ew elk
        exact ⟨by omega, fun q => (nomatch q), fun q => absurd q.1 hc⟩
      have hf : 4 < w + 5 := by omega
      clear ew elk
      generalize 5 = d at hf
      induction d generalizing w lk H locs ls with
      | zero => exact absurd hf (by have := inv.1; omega)
      | succ d ih =>
        obtain ⟨hw, hlk⟩ := inv
        refine lv_iload_n hx hb dX1_isLike_30 rfl (lv_at hl 3 rfl) ?_
        refine lv_iconst (v := 4) hx hb dX1_isLike_31 (by decide) ?_
        refine lv_icmp_ge (tgt := 83) hx hb dX1_isLike_32 (by decide) (fun c0 => ?_) (fun c0 => ?_)
        · have hw : w = 4 := by
            rcases Nat.lt_or_ge w 4 with q | q
            · exact absurd c0 (nI_ge q (by decide))
            · omega
          subst hw
          refine lv_iconst (v := 0) hx hb dX1_isLike_83 (by decide) ?_
          refine lv_istore_n (lv' := [(3, .int 0), (0, .ref a), (1, .ref o), (2, .int (bi lk))]) hx hb dX1_isLike_84 rfl hl (by decide) rfl (fun ls hl => ?_)
          clear ih hf
          obtain ⟨w, ew⟩ : ∃ z : Nat, z = 0 := ⟨_, rfl⟩
          obtain ⟨l2, el2⟩ : ∃ z : Bool, z = lk := ⟨_, rfl⟩
          replace hl : lv_has ls 4 [(0, .ref a), (1, .ref o), (2, .int (bi l2)), (3, .int (nI w))] := by subst ew el2; exact (lv_sub hl [1, 2, 3, 0] rfl)
          have inv : w ≤ 32 ∧ (l2 = true ↔ lk = true ∧ ∀ j, j < w → rI bt j = rI ot j) := by
            subst ew el2
            exact ⟨by omega, fun q => ⟨q, fun j h => absurd h (Nat.not_lt_zero j)⟩, fun q => q.1⟩
          have hf : 32 < w + 33 := by omega
          clear ew el2
          generalize 33 = d at hf
          induction d generalizing w l2 H locs ls with
          | zero => exact absurd hf (by have := inv.1; omega)
          | succ d ih =>
            obtain ⟨hw2, hl2⟩ := inv
            refine lv_iload_n hx hb dX1_isLike_85 rfl (lv_at hl 3 rfl) ?_
            refine lv_bipush (v := 32) hx hb dX1_isLike_86 (by decide) ?_
            refine lv_icmp_ge (tgt := 122) hx hb dX1_isLike_88 (by decide) (fun c0 => ?_) (fun c0 => ?_)
            · have hw : w = 32 := by
                rcases Nat.lt_or_ge w 32 with q | q
                · exact absurd c0 (nI_ge q (by decide))
                · omega
              subst hw
              refine lv_iload_n hx hb dX1_isLike_122 rfl (lv_at hl 2 rfl) ?_
              refine W.widen (k := 0) (n := 0) (by omega) (by omega) ?_
              exact W.zret (v := (bi l2)) hx hb hr (bi_nar l2) (fun t ht hW => ⟨⟨(bi l2), l2, rfl, ⟨rfl, by rw [hl2, hlk]; exact ⟨fun q => ⟨q.1.1, q.1.2, q.2⟩, fun q => ⟨⟨q.1, q.2.1⟩, q.2.2⟩⟩⟩, hG.at ht⟩, hG.2.2.1.F ht⟩) hG.2.2.1.2.2 dX1_isLike_123
            · have hw : w < 32 := by
                rcases Nat.lt_or_ge w 32 with q | q
                · exact q
                · exact absurd (nI_le (a := 32) q (by omega)) c0
              refine lv_iload_n hx hb dX1_isLike_91 rfl (lv_at hl 2 rfl) ?_
              refine lv_if_eq (tgt := 114) hx hb dX1_isLike_92 (by decide) (fun c1 => ?_) (fun c1 => ?_)
              · have hd : ¬ (l2 = true ∧ rI bt w = rI ot w) := fun z => absurd (bi_0.mp c1) (by rw [z.1]; decide)
                refine lv_iconst (v := 0) hx hb dX1_isLike_114 (by decide) ?_
                refine lv_istore_n (lv' := [(2, .int 0), (0, .ref a), (1, .ref o), (3, .int (nI w))]) hx hb dX1_isLike_115 rfl hl (by decide) rfl (fun ls hl => ?_)
                refine lv_iinc (v := (nI (w + 1))) (lv' := [(3, .int (nI (w + 1))), (2, .int 0), (0, .ref a), (1, .ref o)]) hx hb dX1_isLike_116 hl (k := 3) rfl (nI_1 w) (by decide) rfl (fun ls hl => ?_)
                refine lv_goto (tgt := 85) hx hb dX1_isLike_119 (by decide) ?_
                exact ih (w := w + 1) (l2 := false) (hl := (lv_sub hl [2, 3, 1, 0] rfl)) (hG := hG) (inv := ⟨by omega, il_f2 hl2 hd⟩) (hf := by omega)
              · have c1 := ts_nf (fun z => c1 (bi_0.mpr z))
                refine lv_aload_n hx hb dX1_isLike_95 rfl (lv_at hl 0 rfl) ?_
                refine r_State_stamps hx hb hts (by decide +kernel) hown hK hG hLa hKa h2a (hts (.fieldLink RX1 18 "DotStores$State" "stamps" "[I") (by decide +kernel)) dX1_isLike_96 ?_
                refine lv_iload_n hx hb dX1_isLike_99 rfl (lv_at hl 3 rfl) ?_
                refine g_iald hx hb hK hG hLbt hKbt (w) rfl (by rw [hnbt]; omega) (by rw [hnbt]; decide) dX1_isLike_100 ?_
                refine lv_aload_n hx hb dX1_isLike_101 rfl (lv_at hl 1 rfl) ?_
                refine r_State_stamps hx hb hts (by decide +kernel) hown hK hG hLo hKo h2o (hts (.fieldLink RX1 18 "DotStores$State" "stamps" "[I") (by decide +kernel)) dX1_isLike_102 ?_
                refine lv_iload_n hx hb dX1_isLike_105 rfl (lv_at hl 3 rfl) ?_
                refine g_iald hx hb hK hG hLot hKot (w) rfl (by rw [hnot]; omega) (by rw [hnot]; decide) dX1_isLike_106 ?_
                refine lv_icmp_ne (tgt := 114) hx hb dX1_isLike_107 (by decide) (fun c2 => ?_) (fun c2 => ?_)
                · have hd : ¬ (l2 = true ∧ rI bt w = rI ot w) := fun z => c2 z.2
                  refine lv_iconst (v := 0) hx hb dX1_isLike_114 (by decide) ?_
                  refine lv_istore_n (lv' := [(2, .int 0), (0, .ref a), (1, .ref o), (3, .int (nI w))]) hx hb dX1_isLike_115 rfl hl (by decide) rfl (fun ls hl => ?_)
                  refine lv_iinc (v := (nI (w + 1))) (lv' := [(3, .int (nI (w + 1))), (2, .int 0), (0, .ref a), (1, .ref o)]) hx hb dX1_isLike_116 hl (k := 3) rfl (nI_1 w) (by decide) rfl (fun ls hl => ?_)
                  refine lv_goto (tgt := 85) hx hb dX1_isLike_119 (by decide) ?_
                  exact ih (w := w + 1) (l2 := false) (hl := (lv_sub hl [2, 3, 1, 0] rfl)) (hG := hG) (inv := ⟨by omega, il_f2 hl2 hd⟩) (hf := by omega)
                · refine lv_iconst (v := 1) hx hb dX1_isLike_110 (by decide) ?_
                  refine lv_goto (tgt := 115) hx hb dX1_isLike_111 (by decide) ?_
                  refine lv_istore_n (lv' := [(2, .int 1), (0, .ref a), (1, .ref o), (3, .int (nI w))]) hx hb dX1_isLike_115 rfl hl (by decide) rfl (fun ls hl => ?_)
                  refine lv_iinc (v := (nI (w + 1))) (lv' := [(3, .int (nI (w + 1))), (2, .int 1), (0, .ref a), (1, .ref o)]) hx hb dX1_isLike_116 hl (k := 3) rfl (nI_1 w) (by decide) rfl (fun ls hl => ?_)
                  refine lv_goto (tgt := 85) hx hb dX1_isLike_119 (by decide) ?_
                  exact ih (w := w + 1) (l2 := true) (hl := (lv_sub hl [2, 3, 1, 0] rfl)) (hG := hG) (inv := ⟨by omega, il_t2 hl2 c1 c2⟩) (hf := by omega)
        · have hw : w < 4 := by
            rcases Nat.lt_or_ge w 4 with q | q
            · exact q
            · exact absurd (nI_le (a := 4) q (by omega)) c0
          refine lv_iload_n hx hb dX1_isLike_35 rfl (lv_at hl 2 rfl) ?_
          refine lv_if_eq (tgt := 75) hx hb dX1_isLike_36 (by decide) (fun c1 => ?_) (fun c1 => ?_)
          · have hd : ¬ (lk = true ∧ rJ bs w = rJ os w ∧ rJ bl w = rJ ol w) := fun z => absurd (bi_0.mp c1) (by rw [z.1]; decide)
            refine lv_iconst (v := 0) hx hb dX1_isLike_75 (by decide) ?_
            refine lv_istore_n (lv' := [(2, .int 0), (0, .ref a), (1, .ref o), (3, .int (nI w))]) hx hb dX1_isLike_76 rfl hl (by decide) rfl (fun ls hl => ?_)
            refine lv_iinc (v := (nI (w + 1))) (lv' := [(3, .int (nI (w + 1))), (2, .int 0), (0, .ref a), (1, .ref o)]) hx hb dX1_isLike_77 hl (k := 3) rfl (nI_1 w) (by decide) rfl (fun ls hl => ?_)
            refine lv_goto (tgt := 30) hx hb dX1_isLike_80 (by decide) ?_
            exact ih (w := w + 1) (lk := false) (hl := (lv_sub hl [2, 3, 1, 0] rfl)) (hG := hG) (inv := ⟨by omega, il_f hlk hd⟩) (hf := by omega)
          · have c1 := ts_nf (fun z => c1 (bi_0.mpr z))
            refine lv_aload_n hx hb dX1_isLike_39 rfl (lv_at hl 0 rfl) ?_
            refine r_State_seen hx hb hts (by decide +kernel) hown hK hG hLa hKa h0a (hts (.fieldLink RX1 9 "DotStores$State" "seen" "[J") (by decide +kernel)) dX1_isLike_40 ?_
            refine lv_iload_n hx hb dX1_isLike_43 rfl (lv_at hl 3 rfl) ?_
            refine g_lald hx hb hK hG hLbs hKbs (w) rfl (by rw [hnbs]; omega) (by rw [hnbs]; decide) dX1_isLike_44 ?_
            refine lv_aload_n hx hb dX1_isLike_45 rfl (lv_at hl 1 rfl) ?_
            refine r_State_seen hx hb hts (by decide +kernel) hown hK hG hLo hKo h0o (hts (.fieldLink RX1 9 "DotStores$State" "seen" "[J") (by decide +kernel)) dX1_isLike_46 ?_
            refine lv_iload_n hx hb dX1_isLike_49 rfl (lv_at hl 3 rfl) ?_
            refine g_lald hx hb hK hG hLos hKos (w) rfl (by rw [hnos]; omega) (by rw [hnos]; decide) dX1_isLike_50 ?_
            refine W.lcmp hx hb dX1_isLike_51 ?_
            refine lv_if_ne (tgt := 75) hx hb dX1_isLike_52 (by decide) (fun c2 => ?_) (fun c2 => ?_)
            · have hd : ¬ (lk = true ∧ rJ bs w = rJ os w ∧ rJ bl w = rJ ol w) := fun z => c2 ((lg_cmp_eq _ _).mpr z.2.1)
              refine lv_iconst (v := 0) hx hb dX1_isLike_75 (by decide) ?_
              refine lv_istore_n (lv' := [(2, .int 0), (0, .ref a), (1, .ref o), (3, .int (nI w))]) hx hb dX1_isLike_76 rfl hl (by decide) rfl (fun ls hl => ?_)
              refine lv_iinc (v := (nI (w + 1))) (lv' := [(3, .int (nI (w + 1))), (2, .int 0), (0, .ref a), (1, .ref o)]) hx hb dX1_isLike_77 hl (k := 3) rfl (nI_1 w) (by decide) rfl (fun ls hl => ?_)
              refine lv_goto (tgt := 30) hx hb dX1_isLike_80 (by decide) ?_
              exact ih (w := w + 1) (lk := false) (hl := (lv_sub hl [2, 3, 1, 0] rfl)) (hG := hG) (inv := ⟨by omega, il_f hlk hd⟩) (hf := by omega)
            · have c2 := (lg_cmp_eq _ _).mp c2
              refine lv_aload_n hx hb dX1_isLike_55 rfl (lv_at hl 0 rfl) ?_
              refine r_State_live hx hb hts (by decide +kernel) hown hK hG hLa hKa h1a (hts (.fieldLink RX1 15 "DotStores$State" "live" "[J") (by decide +kernel)) dX1_isLike_56 ?_
              refine lv_iload_n hx hb dX1_isLike_59 rfl (lv_at hl 3 rfl) ?_
              refine g_lald hx hb hK hG hLbl hKbl (w) rfl (by rw [hnbl]; omega) (by rw [hnbl]; decide) dX1_isLike_60 ?_
              refine lv_aload_n hx hb dX1_isLike_61 rfl (lv_at hl 1 rfl) ?_
              refine r_State_live hx hb hts (by decide +kernel) hown hK hG hLo hKo h1o (hts (.fieldLink RX1 15 "DotStores$State" "live" "[J") (by decide +kernel)) dX1_isLike_62 ?_
              refine lv_iload_n hx hb dX1_isLike_65 rfl (lv_at hl 3 rfl) ?_
              refine g_lald hx hb hK hG hLol hKol (w) rfl (by rw [hnol]; omega) (by rw [hnol]; decide) dX1_isLike_66 ?_
              refine W.lcmp hx hb dX1_isLike_67 ?_
              refine lv_if_ne (tgt := 75) hx hb dX1_isLike_68 (by decide) (fun c3 => ?_) (fun c3 => ?_)
              · have hd : ¬ (lk = true ∧ rJ bs w = rJ os w ∧ rJ bl w = rJ ol w) := fun z => c3 ((lg_cmp_eq _ _).mpr z.2.2)
                refine lv_iconst (v := 0) hx hb dX1_isLike_75 (by decide) ?_
                refine lv_istore_n (lv' := [(2, .int 0), (0, .ref a), (1, .ref o), (3, .int (nI w))]) hx hb dX1_isLike_76 rfl hl (by decide) rfl (fun ls hl => ?_)
                refine lv_iinc (v := (nI (w + 1))) (lv' := [(3, .int (nI (w + 1))), (2, .int 0), (0, .ref a), (1, .ref o)]) hx hb dX1_isLike_77 hl (k := 3) rfl (nI_1 w) (by decide) rfl (fun ls hl => ?_)
                refine lv_goto (tgt := 30) hx hb dX1_isLike_80 (by decide) ?_
                exact ih (w := w + 1) (lk := false) (hl := (lv_sub hl [2, 3, 1, 0] rfl)) (hG := hG) (inv := ⟨by omega, il_f hlk hd⟩) (hf := by omega)
              · have c3 := (lg_cmp_eq _ _).mp c3
                refine lv_iconst (v := 1) hx hb dX1_isLike_71 (by decide) ?_
                refine lv_goto (tgt := 76) hx hb dX1_isLike_72 (by decide) ?_
                refine lv_istore_n (lv' := [(2, .int 1), (0, .ref a), (1, .ref o), (3, .int (nI w))]) hx hb dX1_isLike_76 rfl hl (by decide) rfl (fun ls hl => ?_)
                refine lv_iinc (v := (nI (w + 1))) (lv' := [(3, .int (nI (w + 1))), (2, .int 1), (0, .ref a), (1, .ref o)]) hx hb dX1_isLike_77 hl (k := 3) rfl (nI_1 w) (by decide) rfl (fun ls hl => ?_)
                refine lv_goto (tgt := 30) hx hb dX1_isLike_80 (by decide) ?_
                exact ih (w := w + 1) (lk := true) (hl := (lv_sub hl [2, 3, 1, 0] rfl)) (hG := hG) (inv := ⟨by omega, il_t hlk c1 c2 c3⟩) (hf := by omega)
    · have hc : fI a 3 = fI o 3 ∧ fI a 4 = fI o 4 := ⟨c1, c2⟩
      refine lv_iconst (v := 1) hx hb dX1_isLike_22 (by decide) ?_
      refine lv_goto (tgt := 27) hx hb dX1_isLike_23 (by decide) ?_
      refine lv_istore_n (lv' := [(2, .int 1), (0, .ref a), (1, .ref o)]) hx hb dX1_isLike_27 rfl hl (by decide) rfl (fun ls hl => ?_)
      refine lv_iconst (v := 0) hx hb dX1_isLike_28 (by decide) ?_
      refine lv_istore_n (lv' := [(3, .int 0), (2, .int 1), (0, .ref a), (1, .ref o)]) hx hb dX1_isLike_29 rfl hl (by decide) rfl (fun ls hl => ?_)
      obtain ⟨w, ew⟩ : ∃ z : Nat, z = 0 := ⟨_, rfl⟩
      obtain ⟨lk, elk⟩ : ∃ z : Bool, z = true := ⟨_, rfl⟩
      replace hl : lv_has ls 4 [(0, .ref a), (1, .ref o), (2, .int (bi lk)), (3, .int (nI w))] := by subst ew elk; exact (lv_sub hl [2, 3, 1, 0] rfl)
      have inv : w ≤ 4 ∧ (lk = true ↔ (fI a 3 = fI o 3 ∧ fI a 4 = fI o 4) ∧ ∀ j, j < w → rJ bs j = rJ os j ∧ rJ bl j = rJ ol j) := by
        subst ew elk
        exact ⟨by omega, fun _ => ⟨hc, fun j h => absurd h (Nat.not_lt_zero j)⟩, fun _ => rfl⟩
      have hf : 4 < w + 5 := by omega
      clear ew elk
      generalize 5 = d at hf
      induction d generalizing w lk H locs ls with
      | zero => exact absurd hf (by have := inv.1; omega)
      | succ d ih =>
        obtain ⟨hw, hlk⟩ := inv
        refine lv_iload_n hx hb dX1_isLike_30 rfl (lv_at hl 3 rfl) ?_
        refine lv_iconst (v := 4) hx hb dX1_isLike_31 (by decide) ?_
        refine lv_icmp_ge (tgt := 83) hx hb dX1_isLike_32 (by decide) (fun c0 => ?_) (fun c0 => ?_)
        · have hw : w = 4 := by
            rcases Nat.lt_or_ge w 4 with q | q
            · exact absurd c0 (nI_ge q (by decide))
            · omega
          subst hw
          refine lv_iconst (v := 0) hx hb dX1_isLike_83 (by decide) ?_
          refine lv_istore_n (lv' := [(3, .int 0), (0, .ref a), (1, .ref o), (2, .int (bi lk))]) hx hb dX1_isLike_84 rfl hl (by decide) rfl (fun ls hl => ?_)
          clear ih hf
          obtain ⟨w, ew⟩ : ∃ z : Nat, z = 0 := ⟨_, rfl⟩
          obtain ⟨l2, el2⟩ : ∃ z : Bool, z = lk := ⟨_, rfl⟩
          replace hl : lv_has ls 4 [(0, .ref a), (1, .ref o), (2, .int (bi l2)), (3, .int (nI w))] := by subst ew el2; exact (lv_sub hl [1, 2, 3, 0] rfl)
          have inv : w ≤ 32 ∧ (l2 = true ↔ lk = true ∧ ∀ j, j < w → rI bt j = rI ot j) := by
            subst ew el2
            exact ⟨by omega, fun q => ⟨q, fun j h => absurd h (Nat.not_lt_zero j)⟩, fun q => q.1⟩
          have hf : 32 < w + 33 := by omega
          clear ew el2
          generalize 33 = d at hf
          induction d generalizing w l2 H locs ls with
          | zero => exact absurd hf (by have := inv.1; omega)
          | succ d ih =>
            obtain ⟨hw2, hl2⟩ := inv
            refine lv_iload_n hx hb dX1_isLike_85 rfl (lv_at hl 3 rfl) ?_
            refine lv_bipush (v := 32) hx hb dX1_isLike_86 (by decide) ?_
            refine lv_icmp_ge (tgt := 122) hx hb dX1_isLike_88 (by decide) (fun c0 => ?_) (fun c0 => ?_)
            · have hw : w = 32 := by
                rcases Nat.lt_or_ge w 32 with q | q
                · exact absurd c0 (nI_ge q (by decide))
                · omega
              subst hw
              refine lv_iload_n hx hb dX1_isLike_122 rfl (lv_at hl 2 rfl) ?_
              refine W.widen (k := 0) (n := 0) (by omega) (by omega) ?_
              exact W.zret (v := (bi l2)) hx hb hr (bi_nar l2) (fun t ht hW => ⟨⟨(bi l2), l2, rfl, ⟨rfl, by rw [hl2, hlk]; exact ⟨fun q => ⟨q.1.1, q.1.2, q.2⟩, fun q => ⟨⟨q.1, q.2.1⟩, q.2.2⟩⟩⟩, hG.at ht⟩, hG.2.2.1.F ht⟩) hG.2.2.1.2.2 dX1_isLike_123
            · have hw : w < 32 := by
                rcases Nat.lt_or_ge w 32 with q | q
                · exact q
                · exact absurd (nI_le (a := 32) q (by omega)) c0
              refine lv_iload_n hx hb dX1_isLike_91 rfl (lv_at hl 2 rfl) ?_
              refine lv_if_eq (tgt := 114) hx hb dX1_isLike_92 (by decide) (fun c1 => ?_) (fun c1 => ?_)
              · have hd : ¬ (l2 = true ∧ rI bt w = rI ot w) := fun z => absurd (bi_0.mp c1) (by rw [z.1]; decide)
                refine lv_iconst (v := 0) hx hb dX1_isLike_114 (by decide) ?_
                refine lv_istore_n (lv' := [(2, .int 0), (0, .ref a), (1, .ref o), (3, .int (nI w))]) hx hb dX1_isLike_115 rfl hl (by decide) rfl (fun ls hl => ?_)
                refine lv_iinc (v := (nI (w + 1))) (lv' := [(3, .int (nI (w + 1))), (2, .int 0), (0, .ref a), (1, .ref o)]) hx hb dX1_isLike_116 hl (k := 3) rfl (nI_1 w) (by decide) rfl (fun ls hl => ?_)
                refine lv_goto (tgt := 85) hx hb dX1_isLike_119 (by decide) ?_
                exact ih (w := w + 1) (l2 := false) (hl := (lv_sub hl [2, 3, 1, 0] rfl)) (hG := hG) (inv := ⟨by omega, il_f2 hl2 hd⟩) (hf := by omega)
              · have c1 := ts_nf (fun z => c1 (bi_0.mpr z))
                refine lv_aload_n hx hb dX1_isLike_95 rfl (lv_at hl 0 rfl) ?_
                refine r_State_stamps hx hb hts (by decide +kernel) hown hK hG hLa hKa h2a (hts (.fieldLink RX1 18 "DotStores$State" "stamps" "[I") (by decide +kernel)) dX1_isLike_96 ?_
                refine lv_iload_n hx hb dX1_isLike_99 rfl (lv_at hl 3 rfl) ?_
                refine g_iald hx hb hK hG hLbt hKbt (w) rfl (by rw [hnbt]; omega) (by rw [hnbt]; decide) dX1_isLike_100 ?_
                refine lv_aload_n hx hb dX1_isLike_101 rfl (lv_at hl 1 rfl) ?_
                refine r_State_stamps hx hb hts (by decide +kernel) hown hK hG hLo hKo h2o (hts (.fieldLink RX1 18 "DotStores$State" "stamps" "[I") (by decide +kernel)) dX1_isLike_102 ?_
                refine lv_iload_n hx hb dX1_isLike_105 rfl (lv_at hl 3 rfl) ?_
                refine g_iald hx hb hK hG hLot hKot (w) rfl (by rw [hnot]; omega) (by rw [hnot]; decide) dX1_isLike_106 ?_
                refine lv_icmp_ne (tgt := 114) hx hb dX1_isLike_107 (by decide) (fun c2 => ?_) (fun c2 => ?_)
                · have hd : ¬ (l2 = true ∧ rI bt w = rI ot w) := fun z => c2 z.2
                  refine lv_iconst (v := 0) hx hb dX1_isLike_114 (by decide) ?_
                  refine lv_istore_n (lv' := [(2, .int 0), (0, .ref a), (1, .ref o), (3, .int (nI w))]) hx hb dX1_isLike_115 rfl hl (by decide) rfl (fun ls hl => ?_)
                  refine lv_iinc (v := (nI (w + 1))) (lv' := [(3, .int (nI (w + 1))), (2, .int 0), (0, .ref a), (1, .ref o)]) hx hb dX1_isLike_116 hl (k := 3) rfl (nI_1 w) (by decide) rfl (fun ls hl => ?_)
                  refine lv_goto (tgt := 85) hx hb dX1_isLike_119 (by decide) ?_
                  exact ih (w := w + 1) (l2 := false) (hl := (lv_sub hl [2, 3, 1, 0] rfl)) (hG := hG) (inv := ⟨by omega, il_f2 hl2 hd⟩) (hf := by omega)
                · refine lv_iconst (v := 1) hx hb dX1_isLike_110 (by decide) ?_
                  refine lv_goto (tgt := 115) hx hb dX1_isLike_111 (by decide) ?_
                  refine lv_istore_n (lv' := [(2, .int 1), (0, .ref a), (1, .ref o), (3, .int (nI w))]) hx hb dX1_isLike_115 rfl hl (by decide) rfl (fun ls hl => ?_)
                  refine lv_iinc (v := (nI (w + 1))) (lv' := [(3, .int (nI (w + 1))), (2, .int 1), (0, .ref a), (1, .ref o)]) hx hb dX1_isLike_116 hl (k := 3) rfl (nI_1 w) (by decide) rfl (fun ls hl => ?_)
                  refine lv_goto (tgt := 85) hx hb dX1_isLike_119 (by decide) ?_
                  exact ih (w := w + 1) (l2 := true) (hl := (lv_sub hl [2, 3, 1, 0] rfl)) (hG := hG) (inv := ⟨by omega, il_t2 hl2 c1 c2⟩) (hf := by omega)
        · have hw : w < 4 := by
            rcases Nat.lt_or_ge w 4 with q | q
            · exact q
            · exact absurd (nI_le (a := 4) q (by omega)) c0
          refine lv_iload_n hx hb dX1_isLike_35 rfl (lv_at hl 2 rfl) ?_
          refine lv_if_eq (tgt := 75) hx hb dX1_isLike_36 (by decide) (fun c1 => ?_) (fun c1 => ?_)
          · have hd : ¬ (lk = true ∧ rJ bs w = rJ os w ∧ rJ bl w = rJ ol w) := fun z => absurd (bi_0.mp c1) (by rw [z.1]; decide)
            refine lv_iconst (v := 0) hx hb dX1_isLike_75 (by decide) ?_
            refine lv_istore_n (lv' := [(2, .int 0), (0, .ref a), (1, .ref o), (3, .int (nI w))]) hx hb dX1_isLike_76 rfl hl (by decide) rfl (fun ls hl => ?_)
            refine lv_iinc (v := (nI (w + 1))) (lv' := [(3, .int (nI (w + 1))), (2, .int 0), (0, .ref a), (1, .ref o)]) hx hb dX1_isLike_77 hl (k := 3) rfl (nI_1 w) (by decide) rfl (fun ls hl => ?_)
            refine lv_goto (tgt := 30) hx hb dX1_isLike_80 (by decide) ?_
            exact ih (w := w + 1) (lk := false) (hl := (lv_sub hl [2, 3, 1, 0] rfl)) (hG := hG) (inv := ⟨by omega, il_f hlk hd⟩) (hf := by omega)
          · have c1 := ts_nf (fun z => c1 (bi_0.mpr z))
            refine lv_aload_n hx hb dX1_isLike_39 rfl (lv_at hl 0 rfl) ?_
            refine r_State_seen hx hb hts (by decide +kernel) hown hK hG hLa hKa h0a (hts (.fieldLink RX1 9 "DotStores$State" "seen" "[J") (by decide +kernel)) dX1_isLike_40 ?_
            refine lv_iload_n hx hb dX1_isLike_43 rfl (lv_at hl 3 rfl) ?_
            refine g_lald hx hb hK hG hLbs hKbs (w) rfl (by rw [hnbs]; omega) (by rw [hnbs]; decide) dX1_isLike_44 ?_
            refine lv_aload_n hx hb dX1_isLike_45 rfl (lv_at hl 1 rfl) ?_
            refine r_State_seen hx hb hts (by decide +kernel) hown hK hG hLo hKo h0o (hts (.fieldLink RX1 9 "DotStores$State" "seen" "[J") (by decide +kernel)) dX1_isLike_46 ?_
            refine lv_iload_n hx hb dX1_isLike_49 rfl (lv_at hl 3 rfl) ?_
            refine g_lald hx hb hK hG hLos hKos (w) rfl (by rw [hnos]; omega) (by rw [hnos]; decide) dX1_isLike_50 ?_
            refine W.lcmp hx hb dX1_isLike_51 ?_
            refine lv_if_ne (tgt := 75) hx hb dX1_isLike_52 (by decide) (fun c2 => ?_) (fun c2 => ?_)
            · have hd : ¬ (lk = true ∧ rJ bs w = rJ os w ∧ rJ bl w = rJ ol w) := fun z => c2 ((lg_cmp_eq _ _).mpr z.2.1)
              refine lv_iconst (v := 0) hx hb dX1_isLike_75 (by decide) ?_
              refine lv_istore_n (lv' := [(2, .int 0), (0, .ref a), (1, .ref o), (3, .int (nI w))]) hx hb dX1_isLike_76 rfl hl (by decide) rfl (fun ls hl => ?_)
              refine lv_iinc (v := (nI (w + 1))) (lv' := [(3, .int (nI (w + 1))), (2, .int 0), (0, .ref a), (1, .ref o)]) hx hb dX1_isLike_77 hl (k := 3) rfl (nI_1 w) (by decide) rfl (fun ls hl => ?_)
              refine lv_goto (tgt := 30) hx hb dX1_isLike_80 (by decide) ?_
              exact ih (w := w + 1) (lk := false) (hl := (lv_sub hl [2, 3, 1, 0] rfl)) (hG := hG) (inv := ⟨by omega, il_f hlk hd⟩) (hf := by omega)
            · have c2 := (lg_cmp_eq _ _).mp c2
              refine lv_aload_n hx hb dX1_isLike_55 rfl (lv_at hl 0 rfl) ?_
              refine r_State_live hx hb hts (by decide +kernel) hown hK hG hLa hKa h1a (hts (.fieldLink RX1 15 "DotStores$State" "live" "[J") (by decide +kernel)) dX1_isLike_56 ?_
              refine lv_iload_n hx hb dX1_isLike_59 rfl (lv_at hl 3 rfl) ?_
              refine g_lald hx hb hK hG hLbl hKbl (w) rfl (by rw [hnbl]; omega) (by rw [hnbl]; decide) dX1_isLike_60 ?_
              refine lv_aload_n hx hb dX1_isLike_61 rfl (lv_at hl 1 rfl) ?_
              refine r_State_live hx hb hts (by decide +kernel) hown hK hG hLo hKo h1o (hts (.fieldLink RX1 15 "DotStores$State" "live" "[J") (by decide +kernel)) dX1_isLike_62 ?_
              refine lv_iload_n hx hb dX1_isLike_65 rfl (lv_at hl 3 rfl) ?_
              refine g_lald hx hb hK hG hLol hKol (w) rfl (by rw [hnol]; omega) (by rw [hnol]; decide) dX1_isLike_66 ?_
              refine W.lcmp hx hb dX1_isLike_67 ?_
              refine lv_if_ne (tgt := 75) hx hb dX1_isLike_68 (by decide) (fun c3 => ?_) (fun c3 => ?_)
              · have hd : ¬ (lk = true ∧ rJ bs w = rJ os w ∧ rJ bl w = rJ ol w) := fun z => c3 ((lg_cmp_eq _ _).mpr z.2.2)
                refine lv_iconst (v := 0) hx hb dX1_isLike_75 (by decide) ?_
                refine lv_istore_n (lv' := [(2, .int 0), (0, .ref a), (1, .ref o), (3, .int (nI w))]) hx hb dX1_isLike_76 rfl hl (by decide) rfl (fun ls hl => ?_)
                refine lv_iinc (v := (nI (w + 1))) (lv' := [(3, .int (nI (w + 1))), (2, .int 0), (0, .ref a), (1, .ref o)]) hx hb dX1_isLike_77 hl (k := 3) rfl (nI_1 w) (by decide) rfl (fun ls hl => ?_)
                refine lv_goto (tgt := 30) hx hb dX1_isLike_80 (by decide) ?_
                exact ih (w := w + 1) (lk := false) (hl := (lv_sub hl [2, 3, 1, 0] rfl)) (hG := hG) (inv := ⟨by omega, il_f hlk hd⟩) (hf := by omega)
              · have c3 := (lg_cmp_eq _ _).mp c3
                refine lv_iconst (v := 1) hx hb dX1_isLike_71 (by decide) ?_
                refine lv_goto (tgt := 76) hx hb dX1_isLike_72 (by decide) ?_
                refine lv_istore_n (lv' := [(2, .int 1), (0, .ref a), (1, .ref o), (3, .int (nI w))]) hx hb dX1_isLike_76 rfl hl (by decide) rfl (fun ls hl => ?_)
                refine lv_iinc (v := (nI (w + 1))) (lv' := [(3, .int (nI (w + 1))), (2, .int 1), (0, .ref a), (1, .ref o)]) hx hb dX1_isLike_77 hl (k := 3) rfl (nI_1 w) (by decide) rfl (fun ls hl => ?_)
                refine lv_goto (tgt := 30) hx hb dX1_isLike_80 (by decide) ?_
                exact ih (w := w + 1) (lk := true) (hl := (lv_sub hl [2, 3, 1, 0] rfl)) (hG := hG) (inv := ⟨by omega, il_t hlk c1 c2 c3⟩) (hf := by omega)
set_option maxHeartbeats 4000000 in
set_option maxRecDepth 100000 in
/-- State(): three rows of noughts -/
theorem c_State_init (l : Launch) (G : gG) (base : Nat) {L : List Nat} {K n : Nat → Nat} {rI : Nat → Nat → Int32} {rJ : Nat → Nat → Int64} {rQ : Nat → Nat → Option Nat} {fI : Nat → Nat → Int32} {fR : Nat → Nat → Option Nat} {a : Nat} (hLa : a ∈ L) (hKa : K a = 1) : Met l yX1_init wsX1_init ({ frames := 1, cells := 3, slots := 40, locals := 14 }) (va_Pc [.ref a] (g_Pr G base (L, K, n, rI, rJ, rQ, fI, fR))) (g_Qv G base (fun u : Nat × Nat × Nat => ((((L ++ [u.1]) ++ [u.2.1]) ++ [u.2.2]), (va_up (va_up (va_up K u.1 5) u.2.1 5) u.2.2 4), (va_up (va_up (va_up n u.1 4) u.2.1 4) u.2.2 32), (va_up rI u.2.2 (fun _ => 0)), (va_up (va_up rJ u.1 (fun _ => 0)) u.2.1 (fun _ => 0)), rQ, (g_up ((g_up (fI) a 3 0)) a 4 0), (g_up ((g_up ((g_up (fR) a 0 (some u.1))) a 1 (some u.2.1))) a 2 (some u.2.2)))) (fun u => u.1 ∉ L ∧ u.2.1 ∉ L ++ [u.1] ∧ u.2.2 ∉ L ++ [u.1] ++ [u.2.1])) 3 40 (g_A base) := by
  refine Met.ofW (cc := cX1_init) (maxL := 1) (ret := none) (by decide) rfl ?_
  intro p e s m args below meth c s₁ B hml hv
  obtain ⟨rfl, hPr⟩ := hv
  have hx := B.exec
  have hb := B.bytes
  have hr := B.returns
  have hts := atoms_spec (ws := wsX1_init) B.pre
  have hown : s.vm.findClass RX1 = some m.cls := findClass_of_methodNamed B.named
  have hlocks := B.notSynchronized
  have hin : meth.name = "<init>" := (name_of_methodNamed B.named B.method).1
  have hK := hPr.2.2
  have hG := hPr.gw
  have hl := lv_entry ([.ref a]) (n := 1) (Nat.le_of_ble_eq_true rfl)
  rw [lg_entry_eq]
  generalize (lg_sl ([.ref a]) ++ List.replicate (1 - (lg_sl ([.ref a])).length) Slot.unset).toArray = ls at hl ⊢
  have hl : lv_has ls 1 [(0, .ref a)] := hl
  refine g_start hPr (fun H locs hG => ?_)
  refine lv_aload_n hx hb dX1_init_0 rfl (lv_at hl 0 rfl) ?_
  refine W.objInit hx hb hown (hts (.methodLink RX1 3 objectInit) (by decide +kernel)) (hts (.instanceMethod objectInit) (by decide +kernel)) (hts (.code objectInit ⟨#[0xb1]⟩ 1 none) (by decide +kernel)) rfl (by rw [hml]; exact hl.1) rfl dX1_init_1 (Nat.le_of_ble_eq_true rfl) (Nat.le_of_ble_eq_true rfl) ?_
  refine W.eq (g2 := F0 m 4 ls []) rfl ?_
  refine lv_aload_n hx hb dX1_init_4 rfl (lv_at hl 0 rfl) ?_
  refine lv_iconst (v := 4) hx hb dX1_init_5 (by decide) ?_
  refine g_newa5 hx hb (hts (.arrayClass .long) (by decide +kernel)) hK hG 4 rfl (by decide) (Nat.le_of_ble_eq_true rfl) (Nat.le_of_ble_eq_true rfl) dX1_init_6 (fun qs H hqs hG => ?_)
  refine w_State_seen hx hb hts (by decide +kernel) hown hK hG (up_l hLa) (up_k hqs hLa hKa) hin (hts (.fieldLink RX1 9 "DotStores$State" "seen" "[J") (by decide +kernel)) dX1_init_8 (fun H locs hG => ?_)
  refine lv_aload_n hx hb dX1_init_11 rfl (lv_at hl 0 rfl) ?_
  refine lv_iconst (v := 4) hx hb dX1_init_12 (by decide) ?_
  refine g_newa5 hx hb (hts (.arrayClass .long) (by decide +kernel)) hK hG 4 rfl (by decide) (Nat.le_of_ble_eq_true rfl) (Nat.le_of_ble_eq_true rfl) dX1_init_13 (fun ql H hql hG => ?_)
  refine w_State_live hx hb hts (by decide +kernel) hown hK hG (up_l (up_l hLa)) (up_k hql (up_l hLa) (up_k hqs hLa hKa)) hin (hts (.fieldLink RX1 15 "DotStores$State" "live" "[J") (by decide +kernel)) dX1_init_15 (fun H locs hG => ?_)
  refine lv_aload_n hx hb dX1_init_18 rfl (lv_at hl 0 rfl) ?_
  refine lv_bipush (v := 32) hx hb dX1_init_19 (by decide) ?_
  refine g_newa4 hx hb (hts (.arrayClass .int) (by decide +kernel)) hK hG 32 rfl (by decide) (Nat.le_of_ble_eq_true rfl) (Nat.le_of_ble_eq_true rfl) dX1_init_21 (fun qt H hqt hG => ?_)
  refine w_State_stamps hx hb hts (by decide +kernel) hown hK hG (up_l (up_l (up_l hLa))) (up_k hqt (up_l (up_l hLa)) (up_k hql (up_l hLa) (up_k hqs hLa hKa))) hin (hts (.fieldLink RX1 18 "DotStores$State" "stamps" "[I") (by decide +kernel)) dX1_init_23 (fun H locs hG => ?_)
  refine lv_aload_n hx hb dX1_init_26 rfl (lv_at hl 0 rfl) ?_
  refine lv_iconst (v := 0) hx hb dX1_init_27 (by decide) ?_
  refine w_State_put hx hb hts (by decide +kernel) hown hK hG (up_l (up_l (up_l hLa))) (up_k hqt (up_l (up_l hLa)) (up_k hql (up_l hLa) (up_k hqs hLa hKa))) (hts (.fieldLink RX1 22 "DotStores$State" "put" "I") (by decide +kernel)) dX1_init_28 (fun H locs hG => ?_)
  refine lv_aload_n hx hb dX1_init_31 rfl (lv_at hl 0 rfl) ?_
  refine lv_iconst (v := 0) hx hb dX1_init_32 (by decide) ?_
  refine w_State_taken hx hb hts (by decide +kernel) hown hK hG (up_l (up_l (up_l hLa))) (up_k hqt (up_l (up_l hLa)) (up_k hql (up_l hLa) (up_k hqs hLa hKa))) (hts (.fieldLink RX1 26 "DotStores$State" "taken" "I") (by decide +kernel)) dX1_init_33 (fun H locs hG => ?_)
  refine W.widen (k := 3) (n := 40) (by omega) (by omega) ?_
  exact W.vret hx hb hr (fun t ht hW => ⟨⟨(qs, ql, qt), rfl, ⟨hqs, hql, hqt⟩, hG.at ht⟩, hG.2.2.1.F ht⟩) hG.2.2.1.2.2 dX1_init_36
