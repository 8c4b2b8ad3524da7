set_option maxHeartbeats 4000000 in
set_option maxRecDepth 100000 in
/-- State.isSeen(i) -/
theorem c_isSeen (l : Launch) (G : gG) (base : Nat) {L : List Nat} {K n : Nat → Nat} {rI : Nat → Nat → Int32} {rJ : Nat → Nat → Int64} {rQ : Nat → Nat → Option Nat} {fI : Nat → Nat → Int32} {fR : Nat → Nat → Option Nat} {a bs bl bt : Nat} (hS : isSt L K n fR a bs bl bt) {i : Nat} (hi : i < 256) : Met l yX1_isSeen wsX1_isSeen ({ frames := 0, cells := 0, slots := 0, locals := 0 }) (va_Pc [.ref a, .int (nI i)] (g_Pr G base (L, K, n, rI, rJ, rQ, fI, fR))) (g_Qi G base (fun _ : Unit => (L, K, n, rI, rJ, rQ, fI, fR)) (fun r _ => r = bi (rb (rJ bs) i))) 0 0 (g_A base) := by
  obtain ⟨hLa, hKa, h0a, h1a, h2a, hLbs, hKbs, hnbs, hLbl, hKbl, hnbl, hLbt, hKbt, hnbt⟩ := hS
  refine Met.ofW (cc := cX1_isSeen) (maxL := 2) (ret := (some .boolean)) (by decide) rfl ?_
  intro p e s m args below meth c s₁ B hml hv
  obtain ⟨rfl, hPr⟩ := hv
  have hx := B.exec
  have hb := B.bytes
  have hr := B.returns
  have hts := atoms_spec (ws := wsX1_isSeen) B.pre
  have hown : s.vm.findClass RX1 = some m.cls := findClass_of_methodNamed B.named
  have hlocks := B.notSynchronized
  have hin : meth.name = "isSeen" := (name_of_methodNamed B.named B.method).1
  have hK := hPr.2.2
  have hG := hPr.gw
  have hl := lv_entry ([.ref a, .int (nI i)]) (n := 2) (Nat.le_of_ble_eq_true rfl)
  rw [lg_entry_eq]
  generalize (lg_sl ([.ref a, .int (nI i)]) ++ List.replicate (2 - (lg_sl ([.ref a, .int (nI i)])).length) Slot.unset).toArray = ls at hl ⊢
  have hl : lv_has ls 2 [(0, .ref a), (1, .int (nI i))] := hl
  refine g_start hPr (fun H locs hG => ?_)
  refine lv_aload_n hx hb dX1_isSeen_0 rfl (lv_at hl 0 rfl) ?_
  refine r_State_seen hx hb hts (by decide +kernel) hown hK hG hLa hKa h0a (hts (.fieldLink RX1 9 "DotStores$State" "seen" "[J") (by decide +kernel)) dX1_isSeen_1 ?_
  refine lv_iload_n hx hb dX1_isSeen_4 rfl (lv_at hl 1 rfl) ?_
  refine lv_bipush (v := 64) hx hb dX1_isSeen_5 (by decide) ?_
  refine lv_idiv hx hb dX1_isSeen_7 (by decide) ?_
  refine lv_topi (fun z1 ez1 => ?_)
  obtain rfl : z1 = nI (i / 64) := ez1.trans (pk_div (a := i) (d := 64) (by omega) (by decide) (by decide))
  refine g_lald hx hb hK hG hLbs hKbs (i / 64) rfl (by rw [hnbs]; omega) (by rw [hnbs]; decide) dX1_isSeen_8 ?_
  refine lv_iload_n hx hb dX1_isSeen_9 rfl (lv_at hl 1 rfl) ?_
  refine lv_bipush (v := 64) hx hb dX1_isSeen_10 (by decide) ?_
  refine lv_irem hx hb dX1_isSeen_12 (by decide) ?_
  refine lv_topi (fun z2 ez2 => ?_)
  obtain rfl : z2 = nI (i % 64) := ez2.trans (pk_rem (a := i) (d := 64) (by omega) (by decide) (by decide))
  refine lv_lushr hx hb dX1_isSeen_13 rfl ?_
  refine lv_lconst (v := 1) hx hb dX1_isSeen_14 (by decide) ?_
  refine lv_land hx hb dX1_isSeen_15 ?_
  refine lv_lconst (v := 0) hx hb dX1_isSeen_16 (by decide) ?_
  refine W.lcmp hx hb dX1_isSeen_17 ?_
  refine lv_if_eq (tgt := 25) hx hb dX1_isSeen_18 (by decide) (fun c1 => ?_) (fun c1 => ?_)
  · have c2 := (lb_test (Nat.mod_lt i (by decide))).mp ((lg_cmp_eq _ _).mp c1)
    refine lv_iconst (v := 0) hx hb dX1_isSeen_25 (by decide) ?_
    refine W.widen (k := 0) (n := 0) (by omega) (by omega) ?_
    exact W.zret (v := 0) hx hb hr rfl (fun t ht hW => ⟨⟨0, (), rfl, (by unfold rb; rw [c2]; rfl), hG.at ht⟩, hG.2.2.1.F ht⟩) hG.2.2.1.2.2 dX1_isSeen_26
  · have c2 := fun z => c1 ((lg_cmp_eq _ _).mpr ((lb_test (Nat.mod_lt i (by decide))).mpr z))
    refine lv_iconst (v := 1) hx hb dX1_isSeen_21 (by decide) ?_
    refine lv_goto (tgt := 26) hx hb dX1_isSeen_22 (by decide) ?_
    refine W.widen (k := 0) (n := 0) (by omega) (by omega) ?_
    exact W.zret (v := 1) hx hb hr rfl (fun t ht hW => ⟨⟨1, (), rfl, (by unfold rb; rw [ts_nf c2]; rfl), hG.at ht⟩, hG.2.2.1.F ht⟩) hG.2.2.1.2.2 dX1_isSeen_26
set_option maxHeartbeats 4000000 in
set_option maxRecDepth 100000 in
/-- State.isLive(i) -/
theorem c_isLive (l : Launch) (G : gG) (base : Nat) {L : List Nat} {K n : Nat → Nat} {rI : Nat → Nat → Int32} {rJ : Nat → Nat → Int64} {rQ : Nat → Nat → Option Nat} {fI : Nat → Nat → Int32} {fR : Nat → Nat → Option Nat} {a bs bl bt : Nat} (hS : isSt L K n fR a bs bl bt) {i : Nat} (hi : i < 256) : Met l yX1_isLive wsX1_isLive ({ frames := 0, cells := 0, slots := 0, locals := 0 }) (va_Pc [.ref a, .int (nI i)] (g_Pr G base (L, K, n, rI, rJ, rQ, fI, fR))) (g_Qi G base (fun _ : Unit => (L, K, n, rI, rJ, rQ, fI, fR)) (fun r _ => r = bi (rb (rJ bl) i))) 0 0 (g_A base) := by
  obtain ⟨hLa, hKa, h0a, h1a, h2a, hLbs, hKbs, hnbs, hLbl, hKbl, hnbl, hLbt, hKbt, hnbt⟩ := hS
  refine Met.ofW (cc := cX1_isLive) (maxL := 2) (ret := (some .boolean)) (by decide) rfl ?_
  intro p e s m args below meth c s₁ B hml hv
  obtain ⟨rfl, hPr⟩ := hv
  have hx := B.exec
  have hb := B.bytes
  have hr := B.returns
  have hts := atoms_spec (ws := wsX1_isLive) B.pre
  have hown : s.vm.findClass RX1 = some m.cls := findClass_of_methodNamed B.named
  have hlocks := B.notSynchronized
  have hin : meth.name = "isLive" := (name_of_methodNamed B.named B.method).1
  have hK := hPr.2.2
  have hG := hPr.gw
  have hl := lv_entry ([.ref a, .int (nI i)]) (n := 2) (Nat.le_of_ble_eq_true rfl)
  rw [lg_entry_eq]
  generalize (lg_sl ([.ref a, .int (nI i)]) ++ List.replicate (2 - (lg_sl ([.ref a, .int (nI i)])).length) Slot.unset).toArray = ls at hl ⊢
  have hl : lv_has ls 2 [(0, .ref a), (1, .int (nI i))] := hl
  refine g_start hPr (fun H locs hG => ?_)
  refine lv_aload_n hx hb dX1_isLive_0 rfl (lv_at hl 0 rfl) ?_
  refine r_State_live hx hb hts (by decide +kernel) hown hK hG hLa hKa h1a (hts (.fieldLink RX1 15 "DotStores$State" "live" "[J") (by decide +kernel)) dX1_isLive_1 ?_
  refine lv_iload_n hx hb dX1_isLive_4 rfl (lv_at hl 1 rfl) ?_
  refine lv_bipush (v := 64) hx hb dX1_isLive_5 (by decide) ?_
  refine lv_idiv hx hb dX1_isLive_7 (by decide) ?_
  refine lv_topi (fun z1 ez1 => ?_)
  obtain rfl : z1 = nI (i / 64) := ez1.trans (pk_div (a := i) (d := 64) (by omega) (by decide) (by decide))
  refine g_lald hx hb hK hG hLbl hKbl (i / 64) rfl (by rw [hnbl]; omega) (by rw [hnbl]; decide) dX1_isLive_8 ?_
  refine lv_iload_n hx hb dX1_isLive_9 rfl (lv_at hl 1 rfl) ?_
  refine lv_bipush (v := 64) hx hb dX1_isLive_10 (by decide) ?_
  refine lv_irem hx hb dX1_isLive_12 (by decide) ?_
  refine lv_topi (fun z2 ez2 => ?_)
  obtain rfl : z2 = nI (i % 64) := ez2.trans (pk_rem (a := i) (d := 64) (by omega) (by decide) (by decide))
  refine lv_lushr hx hb dX1_isLive_13 rfl ?_
  refine lv_lconst (v := 1) hx hb dX1_isLive_14 (by decide) ?_
  refine lv_land hx hb dX1_isLive_15 ?_
  refine lv_lconst (v := 0) hx hb dX1_isLive_16 (by decide) ?_
  refine W.lcmp hx hb dX1_isLive_17 ?_
  refine lv_if_eq (tgt := 25) hx hb dX1_isLive_18 (by decide) (fun c1 => ?_) (fun c1 => ?_)
  · have c2 := (lb_test (Nat.mod_lt i (by decide))).mp ((lg_cmp_eq _ _).mp c1)
    refine lv_iconst (v := 0) hx hb dX1_isLive_25 (by decide) ?_
    refine W.widen (k := 0) (n := 0) (by omega) (by omega) ?_
    exact W.zret (v := 0) hx hb hr rfl (fun t ht hW => ⟨⟨0, (), rfl, (by unfold rb; rw [c2]; rfl), hG.at ht⟩, hG.2.2.1.F ht⟩) hG.2.2.1.2.2 dX1_isLive_26
  · have c2 := fun z => c1 ((lg_cmp_eq _ _).mpr ((lb_test (Nat.mod_lt i (by decide))).mpr z))
    refine lv_iconst (v := 1) hx hb dX1_isLive_21 (by decide) ?_
    refine lv_goto (tgt := 26) hx hb dX1_isLive_22 (by decide) ?_
    refine W.widen (k := 0) (n := 0) (by omega) (by omega) ?_
    exact W.zret (v := 1) hx hb hr rfl (fun t ht hW => ⟨⟨1, (), rfl, (by unfold rb; rw [ts_nf c2]; rfl), hG.at ht⟩, hG.2.2.1.F ht⟩) hG.2.2.1.2.2 dX1_isLive_26
