set_option maxHeartbeats 4000000 in
set_option maxRecDepth 100000 in
/-- bit(b) -/
theorem c_bit (l : Launch) (G : gG) (base : Nat) {L : List Nat} {K n : Nat → Nat} {rI : Nat → Nat → Int32} {rJ : Nat → Nat → Int64} {rQ : Nat → Nat → Option Nat} {fI : Nat → Nat → Int32} {fR : Nat → Nat → Option Nat} {b : Bool} : Met l yX2_bit wsX2_bit ({ frames := 0, cells := 0, slots := 0, locals := 0 }) (va_Pc [.int (bi b)] (g_Pr G base (L, K, n, rI, rJ, rQ, fI, fR))) (g_Qi G base (fun _ : Unit => (L, K, n, rI, rJ, rQ, fI, fR)) (fun x _ => x = bi b)) 0 0 (g_A base) := by
  refine Met.ofW (cc := cX2_bit) (maxL := 1) (ret := (some .int)) (by decide) rfl ?_
  intro p e s m args below meth c s₁ B hml hv
  obtain ⟨rfl, hPr⟩ := hv
  have hx := B.exec
  have hb := B.bytes
  have hr := B.returns
  have hts := atoms_spec (ws := wsX2_bit) B.pre
  have hown : s.vm.findClass RX2 = some m.cls := findClass_of_methodNamed B.named
  have hlocks := B.notSynchronized
  have hin : meth.name = "bit" := (name_of_methodNamed B.named B.method).1
  have hK := hPr.2.2
  have hG := hPr.gw
  have hl := lv_entry ([.int (bi b)]) (n := 1) (Nat.le_of_ble_eq_true rfl)
  rw [lg_entry_eq]
  generalize (lg_sl ([.int (bi b)]) ++ List.replicate (1 - (lg_sl ([.int (bi b)])).length) Slot.unset).toArray = ls at hl ⊢
  have hl : lv_has ls 1 [(0, .int (bi b))] := hl
  refine g_start hPr (fun H locs hG => ?_)
  refine lv_iload_n hx hb dX2_bit_0 rfl (lv_at hl 0 rfl) ?_
  refine lv_if_eq (tgt := 8) hx hb dX2_bit_1 (by decide) (fun c1 => ?_) (fun c1 => ?_)
  · have c1 := bi_0.mp c1
    refine lv_iconst (v := 0) hx hb dX2_bit_8 (by decide) ?_
    refine W.widen (k := 0) (n := 0) (by omega) (by omega) ?_
    exact W.iret (v := 0) hx hb hr (fun t9 h9 hW9 => ⟨⟨0, (), rfl, (by rw [c1]; rfl), hG.at h9⟩, hG.2.2.1.F h9⟩) hG.2.2.1.2.2 dX2_bit_9
  · have c1 := ts_nf (fun z => c1 (bi_0.mpr z))
    refine lv_iconst (v := 1) hx hb dX2_bit_4 (by decide) ?_
    refine lv_goto (tgt := 9) hx hb dX2_bit_5 (by decide) ?_
    refine W.widen (k := 0) (n := 0) (by omega) (by omega) ?_
    exact W.iret (v := 1) hx hb hr (fun t9 h9 hW9 => ⟨⟨1, (), rfl, (by rw [c1]; rfl), hG.at h9⟩, hG.2.2.1.F h9⟩) hG.2.2.1.2.2 dX2_bit_9
set_option maxHeartbeats 4000000 in
set_option maxRecDepth 100000 in
/-- stamp(t, r, on) -/
theorem c_stamp (l : Launch) (G : gG) (base : Nat) {L : List Nat} {K n : Nat → Nat} {rI : Nat → Nat → Int32} {rJ : Nat → Nat → Int64} {rQ : Nat → Nat → Option Nat} {fI : Nat → Nat → Int32} {fR : Nat → Nat → Option Nat} {t : Int32} {r : Nat} {on : Bool} : Met l yX2_stamp wsX2_stamp ({ frames := 1, cells := 0, slots := 0, locals := 20 }) (va_Pc [.int t, .int (nI r), .int (bi on)] (g_Pr G base (L, K, n, rI, rJ, rQ, fI, fR))) (g_Qi G base (fun _ : Unit => (L, K, n, rI, rJ, rQ, fI, fR)) (fun x _ => x = stampI t r on)) 0 0 (g_A base) := by
  refine Met.ofW (cc := cX2_stamp) (maxL := 3) (ret := (some .int)) (by decide) rfl ?_
  intro p e s m args below meth c s₁ B hml hv
  obtain ⟨rfl, hPr⟩ := hv
  have hx := B.exec
  have hb := B.bytes
  have hr := B.returns
  have hts := atoms_spec (ws := wsX2_stamp) B.pre
  have hown : s.vm.findClass RX2 = some m.cls := findClass_of_methodNamed B.named
  have hlocks := B.notSynchronized
  have hin : meth.name = "stamp" := (name_of_methodNamed B.named B.method).1
  have hK := hPr.2.2
  have hG := hPr.gw
  have hl := lv_entry ([.int t, .int (nI r), .int (bi on)]) (n := 3) (Nat.le_of_ble_eq_true rfl)
  rw [lg_entry_eq]
  generalize (lg_sl ([.int t, .int (nI r), .int (bi on)]) ++ List.replicate (3 - (lg_sl ([.int t, .int (nI r), .int (bi on)])).length) Slot.unset).toArray = ls at hl ⊢
  have hl : lv_has ls 3 [(0, .int t), (1, .int (nI r)), (2, .int (bi on))] := hl
  refine g_start hPr (fun H locs hG => ?_)
  refine lv_iconst (v := 1) hx hb dX2_stamp_0 (by decide) ?_
  refine lv_iload_n hx hb dX2_stamp_1 rfl (lv_at hl 0 rfl) ?_
  refine lv_bipush (v := 6) hx hb dX2_stamp_2 (by decide) ?_
  refine lv_imul hx hb dX2_stamp_4 ?_
  refine lv_iload_n hx hb dX2_stamp_5 rfl (lv_at hl 1 rfl) ?_
  refine lv_iadd hx hb dX2_stamp_6 ?_
  refine lv_iconst (v := 2) hx hb dX2_stamp_7 (by decide) ?_
  refine lv_imul hx hb dX2_stamp_8 ?_
  refine lv_iadd hx hb dX2_stamp_9 ?_
  refine lv_iload_n hx hb dX2_stamp_10 rfl (lv_at hl 2 rfl) ?_
  refine g_calli (va_runS (As := [.int (bi on)]) (rest := [.int (1 + (((t * 6) + (nI r)) * 2))]) ⟨hx, hb, hml, hown, hts⟩ (c_bit l G base (b := on)) (cwS 1 hts gX2_stamp_X2_bit rfl rfl rfl (by decide +kernel) ⟨(Nat.le_of_ble_eq_true rfl), (Nat.le_of_ble_eq_true rfl)⟩) (g_ps hK hG) rfl rfl hl.1 rfl (lv_room (Nat.le_of_ble_eq_true rfl)) dX2_stamp_11 ⟨(Nat.le_of_ble_eq_true rfl), (Nat.le_of_ble_eq_true rfl)⟩) hG (fun y1 u H locs hp hG => ?_)
  subst hp
  refine lv_iadd hx hb dX2_stamp_14 ?_
  refine W.widen (k := 0) (n := 0) (by omega) (by omega) ?_
  exact W.iret (v := ((1 + (((t * 6) + (nI r)) * 2)) + (bi on))) hx hb hr (fun t9 h9 hW9 => ⟨⟨((1 + (((t * 6) + (nI r)) * 2)) + (bi on)), (), rfl, (by unfold stampI; rfl), hG.at h9⟩, hG.2.2.1.F h9⟩) hG.2.2.1.2.2 dX2_stamp_15
set_option maxHeartbeats 4000000 in
set_option maxRecDepth 100000 in
/-- stampIsIn(t) -/
theorem c_stampIsIn (l : Launch) (G : gG) (base : Nat) {L : List Nat} {K n : Nat → Nat} {rI : Nat → Nat → Int32} {rJ : Nat → Nat → Int64} {rQ : Nat → Nat → Option Nat} {fI : Nat → Nat → Int32} {fR : Nat → Nat → Option Nat} {t : Int32} : Met l yX2_stampIsIn wsX2_stampIsIn ({ frames := 0, cells := 0, slots := 0, locals := 0 }) (va_Pc [.int t] (g_Pr G base (L, K, n, rI, rJ, rQ, fI, fR))) (g_Qi G base (fun _ : Unit => (L, K, n, rI, rJ, rQ, fI, fR)) (fun x _ => x = bi (decide (0 < t ∧ (t - 1) - (t - 1) / 2 * 2 = 1)))) 0 0 (g_A base) := by
  refine Met.ofW (cc := cX2_stampIsIn) (maxL := 1) (ret := (some .boolean)) (by decide) rfl ?_
  intro p e s m args below meth c s₁ B hml hv
  obtain ⟨rfl, hPr⟩ := hv
  have hx := B.exec
  have hb := B.bytes
  have hr := B.returns
  have hts := atoms_spec (ws := wsX2_stampIsIn) B.pre
  have hown : s.vm.findClass RX2 = some m.cls := findClass_of_methodNamed B.named
  have hlocks := B.notSynchronized
  have hin : meth.name = "stampIsIn" := (name_of_methodNamed B.named B.method).1
  have hK := hPr.2.2
  have hG := hPr.gw
  have hl := lv_entry ([.int t]) (n := 1) (Nat.le_of_ble_eq_true rfl)
  rw [lg_entry_eq]
  generalize (lg_sl ([.int t]) ++ List.replicate (1 - (lg_sl ([.int t])).length) Slot.unset).toArray = ls at hl ⊢
  have hl : lv_has ls 1 [(0, .int t)] := hl
  refine g_start hPr (fun H locs hG => ?_)
  refine lv_iload_n hx hb dX2_stampIsIn_0 rfl (lv_at hl 0 rfl) ?_
  refine lv_if_le (tgt := 17) hx hb dX2_stampIsIn_1 (by decide) (fun c1 => ?_) (fun c1 => ?_)
  · have c2 : ¬ (0 < t ∧ (t - 1) - (t - 1) / 2 * 2 = 1) := fun z => absurd c1 (Int32.not_le.mpr z.1)
    refine lv_iconst (v := 0) hx hb dX2_stampIsIn_17 (by decide) ?_
    refine W.widen (k := 0) (n := 0) (by omega) (by omega) ?_
    exact W.zret (v := 0) hx hb hr rfl (fun t9 h9 hW9 => ⟨⟨0, (), rfl, (by rw [decide_eq_false c2]; rfl), hG.at h9⟩, hG.2.2.1.F h9⟩) hG.2.2.1.2.2 dX2_stampIsIn_18
  · have c1 := Int32.not_le.mp c1
    refine lv_iload_n hx hb dX2_stampIsIn_4 rfl (lv_at hl 0 rfl) ?_
    refine lv_iconst (v := 1) hx hb dX2_stampIsIn_5 (by decide) ?_
    refine lv_isub hx hb dX2_stampIsIn_6 ?_
    refine lv_iconst (v := 2) hx hb dX2_stampIsIn_7 (by decide) ?_
    refine lv_irem hx hb dX2_stampIsIn_8 (by decide) ?_
    refine lv_iconst (v := 1) hx hb dX2_stampIsIn_9 (by decide) ?_
    refine lv_icmp_ne (tgt := 17) hx hb dX2_stampIsIn_10 (by decide) (fun c3 => ?_) (fun c3 => ?_)
    · have c2 : ¬ (0 < t ∧ (t - 1) - (t - 1) / 2 * 2 = 1) := fun z => c3 z.2
      refine lv_iconst (v := 0) hx hb dX2_stampIsIn_17 (by decide) ?_
      refine W.widen (k := 0) (n := 0) (by omega) (by omega) ?_
      exact W.zret (v := 0) hx hb hr rfl (fun t9 h9 hW9 => ⟨⟨0, (), rfl, (by rw [decide_eq_false c2]; rfl), hG.at h9⟩, hG.2.2.1.F h9⟩) hG.2.2.1.2.2 dX2_stampIsIn_18
    · have c2 : 0 < t ∧ (t - 1) - (t - 1) / 2 * 2 = 1 := ⟨c1, c3⟩
      refine lv_iconst (v := 1) hx hb dX2_stampIsIn_13 (by decide) ?_
      refine lv_goto (tgt := 18) hx hb dX2_stampIsIn_14 (by decide) ?_
      refine W.widen (k := 0) (n := 0) (by omega) (by omega) ?_
      exact W.zret (v := 1) hx hb hr rfl (fun t9 h9 hW9 => ⟨⟨1, (), rfl, (by rw [decide_eq_true c2]; rfl), hG.at h9⟩, hG.2.2.1.F h9⟩) hG.2.2.1.2.2 dX2_stampIsIn_18
set_option maxHeartbeats 4000000 in
set_option maxRecDepth 100000 in
/-- stampReplica(t) -/
theorem c_stampReplica (l : Launch) (G : gG) (base : Nat) {L : List Nat} {K n : Nat → Nat} {rI : Nat → Nat → Int32} {rJ : Nat → Nat → Int64} {rQ : Nat → Nat → Option Nat} {fI : Nat → Nat → Int32} {fR : Nat → Nat → Option Nat} {t : Int32} : Met l yX2_stampReplica wsX2_stampReplica ({ frames := 0, cells := 0, slots := 0, locals := 0 }) (va_Pc [.int t] (g_Pr G base (L, K, n, rI, rJ, rQ, fI, fR))) (g_Qi G base (fun _ : Unit => (L, K, n, rI, rJ, rQ, fI, fR)) (fun x _ => x = (t - 1) / 2 - (t - 1) / 2 / 6 * 6)) 0 0 (g_A base) := by
  refine Met.ofW (cc := cX2_stampReplica) (maxL := 1) (ret := (some .int)) (by decide) rfl ?_
  intro p e s m args below meth c s₁ B hml hv
  obtain ⟨rfl, hPr⟩ := hv
  have hx := B.exec
  have hb := B.bytes
  have hr := B.returns
  have hts := atoms_spec (ws := wsX2_stampReplica) B.pre
  have hown : s.vm.findClass RX2 = some m.cls := findClass_of_methodNamed B.named
  have hlocks := B.notSynchronized
  have hin : meth.name = "stampReplica" := (name_of_methodNamed B.named B.method).1
  have hK := hPr.2.2
  have hG := hPr.gw
  have hl := lv_entry ([.int t]) (n := 1) (Nat.le_of_ble_eq_true rfl)
  rw [lg_entry_eq]
  generalize (lg_sl ([.int t]) ++ List.replicate (1 - (lg_sl ([.int t])).length) Slot.unset).toArray = ls at hl ⊢
  have hl : lv_has ls 1 [(0, .int t)] := hl
  refine g_start hPr (fun H locs hG => ?_)
  refine lv_iload_n hx hb dX2_stampReplica_0 rfl (lv_at hl 0 rfl) ?_
  refine lv_iconst (v := 1) hx hb dX2_stampReplica_1 (by decide) ?_
  refine lv_isub hx hb dX2_stampReplica_2 ?_
  refine lv_iconst (v := 2) hx hb dX2_stampReplica_3 (by decide) ?_
  refine lv_idiv hx hb dX2_stampReplica_4 (by decide) ?_
  refine lv_bipush (v := 6) hx hb dX2_stampReplica_5 (by decide) ?_
  refine lv_irem hx hb dX2_stampReplica_7 (by decide) ?_
  refine W.widen (k := 0) (n := 0) (by omega) (by omega) ?_
  exact W.iret (v := (((t - 1) / 2) - ((t - 1) / 2) / 6 * 6)) hx hb hr (fun t9 h9 hW9 => ⟨⟨(((t - 1) / 2) - ((t - 1) / 2) / 6 * 6), (), rfl, rfl, hG.at h9⟩, hG.2.2.1.F h9⟩) hG.2.2.1.2.2 dX2_stampReplica_8
set_option maxHeartbeats 4000000 in
set_option maxRecDepth 100000 in
/-- stampTime(t) -/
theorem c_stampTime (l : Launch) (G : gG) (base : Nat) {L : List Nat} {K n : Nat → Nat} {rI : Nat → Nat → Int32} {rJ : Nat → Nat → Int64} {rQ : Nat → Nat → Option Nat} {fI : Nat → Nat → Int32} {fR : Nat → Nat → Option Nat} {t : Int32} : Met l yX2_stampTime wsX2_stampTime ({ frames := 0, cells := 0, slots := 0, locals := 0 }) (va_Pc [.int t] (g_Pr G base (L, K, n, rI, rJ, rQ, fI, fR))) (g_Qi G base (fun _ : Unit => (L, K, n, rI, rJ, rQ, fI, fR)) (fun x _ => x = (t - 1) / 2 / 6)) 0 0 (g_A base) := by
  refine Met.ofW (cc := cX2_stampTime) (maxL := 1) (ret := (some .int)) (by decide) rfl ?_
  intro p e s m args below meth c s₁ B hml hv
  obtain ⟨rfl, hPr⟩ := hv
  have hx := B.exec
  have hb := B.bytes
  have hr := B.returns
  have hts := atoms_spec (ws := wsX2_stampTime) B.pre
  have hown : s.vm.findClass RX2 = some m.cls := findClass_of_methodNamed B.named
  have hlocks := B.notSynchronized
  have hin : meth.name = "stampTime" := (name_of_methodNamed B.named B.method).1
  have hK := hPr.2.2
  have hG := hPr.gw
  have hl := lv_entry ([.int t]) (n := 1) (Nat.le_of_ble_eq_true rfl)
  rw [lg_entry_eq]
  generalize (lg_sl ([.int t]) ++ List.replicate (1 - (lg_sl ([.int t])).length) Slot.unset).toArray = ls at hl ⊢
  have hl : lv_has ls 1 [(0, .int t)] := hl
  refine g_start hPr (fun H locs hG => ?_)
  refine lv_iload_n hx hb dX2_stampTime_0 rfl (lv_at hl 0 rfl) ?_
  refine lv_iconst (v := 1) hx hb dX2_stampTime_1 (by decide) ?_
  refine lv_isub hx hb dX2_stampTime_2 ?_
  refine lv_iconst (v := 2) hx hb dX2_stampTime_3 (by decide) ?_
  refine lv_idiv hx hb dX2_stampTime_4 (by decide) ?_
  refine lv_bipush (v := 6) hx hb dX2_stampTime_5 (by decide) ?_
  refine lv_idiv hx hb dX2_stampTime_7 (by decide) ?_
  refine W.widen (k := 0) (n := 0) (by omega) (by omega) ?_
  exact W.iret (v := (((t - 1) / 2) / 6)) hx hb hr (fun t9 h9 hW9 => ⟨⟨(((t - 1) / 2) / 6), (), rfl, rfl, hG.at h9⟩, hG.2.2.1.F h9⟩) hG.2.2.1.2.2 dX2_stampTime_8
set_option maxHeartbeats 4000000 in
set_option maxRecDepth 100000 in
/-- finish(own, delta) -/
theorem c_finish (l : Launch) (G : gG) (base : Nat) {L : List Nat} {K n : Nat → Nat} {rI : Nat → Nat → Int32} {rJ : Nat → Nat → Int64} {rQ : Nat → Nat → Option Nat} {fI : Nat → Nat → Int32} {fR : Nat → Nat → Option Nat} {ad : Nat → Nat} {α : aT} (hR : RepX (L, K, n, rI, rJ, rQ, fI, fR) ad α) {k o : Nat} (hk : k < 7 + a_nd α) (ho : o < 7 + a_nd α) : Met l yX2_finish wsX2_finish ({ frames := 2, cells := 0, slots := 0, locals := 53 }) (va_Pc [.ref (ad 0), .ref (ad (11 + 4 * k)), .ref (ad (11 + 4 * o))] (g_Pr G base (L, K, n, rI, rJ, rQ, fI, fR))) (g_Qi G base (fun u : (Nat → Nat → Int32) × (Nat → Nat → Int64) × (Nat → Nat → Int32) => (L, K, n, u.1, u.2.1, rQ, u.2.2, fR)) (fun x u => x = nI (a_nd α) - 1 ∧ RepX (L, K, n, u.1, u.2.1, rQ, u.2.2, fR) ad (aJoin α k o) ∧ Keep (L, K, n, rI, rJ, rQ, fI, fR) (L, K, n, u.1, u.2.1, rQ, u.2.2, fR) (inX ad (a_nd α)))) 0 0 (g_A base) := by
  have hDk : isDk L K n fR (ad 0) (ad 1) (ad 2) (ad 3) (ad 35) (ad 4) := hR.1.2.2.1
  have hD : isDt L K n fR (ad 3) (ad 5) (ad 6) (ad 7) (ad 8) (ad 9) (ad 10) := hR.1.2.2.2.1
  have hcnt : fI (ad 3) 6 = nI (a_cnt α) := hR.2.2.2.1.1
  have hmc : fI (ad 0) 5 = nI (a_nd α) := hR.2.1
  have hnd : a_nd α ≤ 250 := hR.1.1
  have hc250 : a_cnt α ≤ 250 := Nat.le_trans hR.2.2.1 hnd
  have hDk0 := hDk
  obtain ⟨hLx, hKx, h0x, h1x, h2x, h3x, h4x, hLra, hKra, hnra, hLma, hKma, hnma, hLod, hKod, hnod⟩ := hDk0
  have hD0 := hD
  obtain ⟨hLd, hKd, h0d, h1d, h2d, h3d, h4d, h5d, hLdr, hKdr, hndr, hLdn, hKdn, hndn, hLdk, hKdk, hndk, hLdp, hKdp, hndp, hLdv, hKdv, hndv, hLdg, hKdg, hndg⟩ := hD0
  have hSk : isSt L K n fR (ad (11 + 4 * k)) (ad (12 + 4 * k)) (ad (13 + 4 * k)) (ad (14 + 4 * k)) := repX_st hR hk
  have hS0 := hSk
  obtain ⟨hLak, hKak, h0ak, h1ak, h2ak, hLbk, hKbk, hnbk, hLck, hKck, hnck, hLek, hKek, hnek⟩ := hS0
  have hSo : isSt L K n fR (ad (11 + 4 * o)) (ad (12 + 4 * o)) (ad (13 + 4 * o)) (ad (14 + 4 * o)) := repX_st hR ho
  have hS0 := hSo
  obtain ⟨hLao, hKao, h0ao, h1ao, h2ao, hLbo, hKbo, hnbo, hLco, hKco, hnco, hLeo, hKeo, hneo⟩ := hS0
  refine Met.ofW (cc := cX2_finish) (maxL := 3) (ret := (some .int)) (by decide) rfl ?_
  intro p e s m args below meth c s₁ B hml hv
  obtain ⟨rfl, hPr⟩ := hv
  have hx := B.exec
  have hb := B.bytes
  have hr := B.returns
  have hts := atoms_spec (ws := wsX2_finish) B.pre
  have hown : s.vm.findClass RX2 = some m.cls := findClass_of_methodNamed B.named
  have hlocks := B.notSynchronized
  have hin : meth.name = "finish" := (name_of_methodNamed B.named B.method).1
  have hK := hPr.2.2
  have hG := hPr.gw
  have hl := lv_entry ([.ref (ad 0), .ref (ad (11 + 4 * k)), .ref (ad (11 + 4 * o))]) (n := 3) (Nat.le_of_ble_eq_true rfl)
  rw [lg_entry_eq]
  generalize (lg_sl ([.ref (ad 0), .ref (ad (11 + 4 * k)), .ref (ad (11 + 4 * o))]) ++ List.replicate (3 - (lg_sl ([.ref (ad 0), .ref (ad (11 + 4 * k)), .ref (ad (11 + 4 * o))])).length) Slot.unset).toArray = ls at hl ⊢
  have hl : lv_has ls 3 [(0, .ref (ad 0)), (1, .ref (ad (11 + 4 * k))), (2, .ref (ad (11 + 4 * o)))] := hl
  refine g_start hPr (fun H locs hG => ?_)
  refine lv_aload_n hx hb dX2_finish_0 rfl (lv_at hl 1 rfl) ?_
  refine lv_aload_n hx hb dX2_finish_1 rfl (lv_at hl 2 rfl) ?_
  refine g_calli (va_runV (As := [.ref (ad (11 + 4 * o))]) (rest := []) ⟨hx, hb, hml, hown, hts⟩ (c_take l G base hSk hSo (repX_ne hR (by omega) (by omega) (by omega))) (cwV 1 hts gX2_finish_X1_take rfl rfl rfl (by decide +kernel) ⟨(Nat.le_of_ble_eq_true rfl), (Nat.le_of_ble_eq_true rfl)⟩) (g_pv1 hK hG hLak hKak) rfl rfl hl.1 rfl (lv_room (Nat.le_of_ble_eq_true rfl)) dX2_finish_2 ⟨(Nat.le_of_ble_eq_true rfl), (Nat.le_of_ble_eq_true rfl)⟩) hG (fun y1 u H locs hp hG => ?_)
  obtain ⟨cg, r1, j1, f1⟩ := u
  obtain ⟨-, htd, htt, hf1, -⟩ := hp
  replace hG : gw G base s.heap (L, K, n, r1, j1, rQ, f1, fR) H locs := hG
  obtain ⟨hR1, hk1, -⟩ := repX_join hR hk ho htd htt hf1
  refine lv_pop hx hb dX2_finish_5 rfl ?_
  refine lv_aload_n hx hb dX2_finish_6 rfl (lv_at hl 0 rfl) ?_
  refine r_Desk_madeCount hx hb hts (by decide +kernel) hown hK hG hLx hKx (hts (.fieldLink RX2 34 "DotStores" "madeCount" "I") (by decide +kernel)) dX2_finish_7 ?_
  refine lv_topi (fun z1 ez1 => ?_)
  obtain rfl : z1 = nI (a_nd α) := ez1.trans (hR1.2.1)
  refine lv_iconst (v := 1) hx hb dX2_finish_10 (by decide) ?_
  refine lv_isub hx hb dX2_finish_11 ?_
  refine W.widen (k := 0) (n := 0) (by omega) (by omega) ?_
  exact W.iret (v := ((nI (a_nd α)) - 1)) hx hb hr (fun t9 h9 hW9 => ⟨⟨((nI (a_nd α)) - 1), (r1, j1, f1), rfl, ⟨rfl, hR1, hk1⟩, hG.at h9⟩, hG.2.2.1.F h9⟩) hG.2.2.1.2.2 dX2_finish_12
