set_option maxHeartbeats 4000000 in
set_option maxRecDepth 100000 in
/-- in -/
theorem k_in (l : Launch) (G : gG) (base : Nat) {L : List Nat} {K n : Nat → Nat} {rI : Nat → Nat → Int32} {rJ : Nat → Nat → Int64} {rQ : Nat → Nat → Option Nat} {fI : Nat → Nat → Int32} {fR : Nat → Nat → Option Nat} {v lo hi : Int32} : Met l yX3_in wsX3_in ({ frames := 0, cells := 0, slots := 0, locals := 0 }) (va_Pc [.int v, .int lo, .int hi] (g_Pr G base (L, K, n, rI, rJ, rQ, fI, fR))) (g_Qi G base (fun _ : Bool => (L, K, n, rI, rJ, rQ, fI, fR)) (fun x u => x = bi u ∧ (u = true ↔ (lo ≤ v ∧ v ≤ hi)))) 0 0 (g_A base) := by
  refine Met.ofW (cc := cX3_in) (maxL := 3) (ret := (some .boolean)) (by decide) rfl ?_
  intro p e s m args below meth c s₁ B hml hv
  obtain ⟨rfl, hPr⟩ := hv
  have hx := B.exec
  have hb := B.bytes
  have hr := B.returns
  have hts := atoms_spec (ws := wsX3_in) B.pre
  have hown : s.vm.findClass RX3 = some m.cls := findClass_of_methodNamed B.named
  have hlocks := B.notSynchronized
  have hin : meth.name = "in" := (name_of_methodNamed B.named B.method).1
  have hK := hPr.2.2
  have hG := hPr.gw
  have hl := lv_entry ([.int v, .int lo, .int hi]) (n := 3) (Nat.le_of_ble_eq_true rfl)
  rw [lg_entry_eq]
  generalize (lg_sl ([.int v, .int lo, .int hi]) ++ List.replicate (3 - (lg_sl ([.int v, .int lo, .int hi])).length) Slot.unset).toArray = ls at hl ⊢
  have hl : lv_has ls 3 [(0, .int v), (1, .int lo), (2, .int hi)] := hl
  refine g_start hPr (fun H locs hG => ?_)
  refine lv_iload_n hx hb dX3_in_0 rfl (lv_at hl 0 rfl) ?_
  refine lv_iload_n hx hb dX3_in_1 rfl (lv_at hl 1 rfl) ?_
  refine lv_icmp_lt (tgt := 14) hx hb dX3_in_2 (by decide) (fun c0 => ?_) (fun c0 => ?_)
  · have hp : ¬ (lo ≤ v ∧ v ≤ hi) := fun z => Int32.not_le.mpr c0 z.1
    refine lv_iconst (v := 0) hx hb dX3_in_14 (by decide) ?_
    refine W.widen (k := 0) (n := 0) (by omega) (by omega) ?_
    exact W.zret (v := 0) hx hb hr rfl (fun t9 h9 hW9 => ⟨⟨0, false, rfl, ⟨rfl, fun z => Bool.noConfusion z, fun z => absurd z hp⟩, hG.at h9⟩, hG.2.2.1.F h9⟩) hG.2.2.1.2.2 dX3_in_15
  · refine lv_iload_n hx hb dX3_in_5 rfl (lv_at hl 0 rfl) ?_
    refine lv_iload_n hx hb dX3_in_6 rfl (lv_at hl 2 rfl) ?_
    refine lv_icmp_gt (tgt := 14) hx hb dX3_in_7 (by decide) (fun c1 => ?_) (fun c1 => ?_)
    · have hp : ¬ (lo ≤ v ∧ v ≤ hi) := fun z => Int32.not_le.mpr c1 z.2
      refine lv_iconst (v := 0) hx hb dX3_in_14 (by decide) ?_
      refine W.widen (k := 0) (n := 0) (by omega) (by omega) ?_
      exact W.zret (v := 0) hx hb hr rfl (fun t9 h9 hW9 => ⟨⟨0, false, rfl, ⟨rfl, fun z => Bool.noConfusion z, fun z => absurd z hp⟩, hG.at h9⟩, hG.2.2.1.F h9⟩) hG.2.2.1.2.2 dX3_in_15
    · have hp : lo ≤ v ∧ v ≤ hi := ⟨Int32.not_lt.mp c0, Int32.not_lt.mp c1⟩
      refine lv_iconst (v := 1) hx hb dX3_in_10 (by decide) ?_
      refine lv_goto (tgt := 15) hx hb dX3_in_11 (by decide) ?_
      refine W.widen (k := 0) (n := 0) (by omega) (by omega) ?_
      exact W.zret (v := 1) hx hb hr rfl (fun t9 h9 hW9 => ⟨⟨1, true, rfl, ⟨rfl, fun _ => hp, fun _ => rfl⟩, hG.at h9⟩, hG.2.2.1.F h9⟩) hG.2.2.1.2.2 dX3_in_15
set_option maxHeartbeats 4000000 in
set_option maxRecDepth 100000 in
/-- isReplica -/
theorem k_isReplica (l : Launch) (G : gG) (base : Nat) {L : List Nat} {K n : Nat → Nat} {rI : Nat → Nat → Int32} {rJ : Nat → Nat → Int64} {rQ : Nat → Nat → Option Nat} {fI : Nat → Nat → Int32} {fR : Nat → Nat → Option Nat} {v : Int32} {a : Nat} : Met l yX3_isReplica wsX3_isReplica ({ frames := 1, cells := 0, slots := 0, locals := 22 }) (va_Pc [.ref a, .int v] (g_Pr G base (L, K, n, rI, rJ, rQ, fI, fR))) (g_Qi G base (fun _ : Bool => (L, K, n, rI, rJ, rQ, fI, fR)) (fun x u => x = bi u ∧ (u = true ↔ okI v 6))) 0 0 (g_A base) := by
  refine Met.ofW (cc := cX3_isReplica) (maxL := 2) (ret := (some .boolean)) (by decide) rfl ?_
  intro p e s m args below meth c s₁ B hml hv
  obtain ⟨rfl, hPr⟩ := hv
  have hx := B.exec
  have hb := B.bytes
  have hr := B.returns
  have hts := atoms_spec (ws := wsX3_isReplica) B.pre
  have hown : s.vm.findClass RX3 = some m.cls := findClass_of_methodNamed B.named
  have hlocks := B.notSynchronized
  have hin : meth.name = "isReplica" := (name_of_methodNamed B.named B.method).1
  have hK := hPr.2.2
  have hG := hPr.gw
  have hl := lv_entry ([.ref a, .int v]) (n := 2) (Nat.le_of_ble_eq_true rfl)
  rw [lg_entry_eq]
  generalize (lg_sl ([.ref a, .int v]) ++ List.replicate (2 - (lg_sl ([.ref a, .int v])).length) Slot.unset).toArray = ls at hl ⊢
  have hl : lv_has ls 2 [(0, .ref a), (1, .int v)] := hl
  refine g_start hPr (fun H locs hG => ?_)
  refine lv_iload_n hx hb dX3_isReplica_0 rfl (lv_at hl 1 rfl) ?_
  refine lv_iconst (v := 0) hx hb dX3_isReplica_1 (by decide) ?_
  refine lv_iconst (v := 5) hx hb dX3_isReplica_2 (by decide) ?_
  refine g_calli (va_runS (As := [.int v, .int 0, .int 5]) (rest := []) ⟨hx, hb, hml, hown, hts⟩ (k_in l G base (v := v) (lo := 0) (hi := 5)) (cwS 3 hts gX3_isReplica_X3_in rfl rfl rfl (by decide +kernel) ⟨(Nat.le_of_ble_eq_true rfl), (Nat.le_of_ble_eq_true rfl)⟩) (g_ps hK hG) rfl rfl hl.1 rfl (lv_room (Nat.le_of_ble_eq_true rfl)) dX3_isReplica_3 ⟨(Nat.le_of_ble_eq_true rfl), (Nat.le_of_ble_eq_true rfl)⟩) hG (fun y1 u H locs hp hG => ?_)
  obtain ⟨e1, e2⟩ := hp
  subst e1
  refine W.widen (k := 0) (n := 0) (by omega) (by omega) ?_
  exact W.zret (v := (bi u)) hx hb hr (bi_nar u) (fun t9 h9 hW9 => ⟨⟨(bi u), u, rfl, ⟨rfl, e2.trans (okI_le (N := 6) (by decide))⟩, hG.at h9⟩, hG.2.2.1.F h9⟩) hG.2.2.1.2.2 dX3_isReplica_6
set_option maxHeartbeats 4000000 in
set_option maxRecDepth 100000 in
/-- isKey -/
theorem k_isKey (l : Launch) (G : gG) (base : Nat) {L : List Nat} {K n : Nat → Nat} {rI : Nat → Nat → Int32} {rJ : Nat → Nat → Int64} {rQ : Nat → Nat → Option Nat} {fI : Nat → Nat → Int32} {fR : Nat → Nat → Option Nat} {v : Int32} : Met l yX3_isKey wsX3_isKey ({ frames := 1, cells := 0, slots := 0, locals := 22 }) (va_Pc [.int v] (g_Pr G base (L, K, n, rI, rJ, rQ, fI, fR))) (g_Qi G base (fun _ : Bool => (L, K, n, rI, rJ, rQ, fI, fR)) (fun x u => x = bi u ∧ (u = true ↔ okI v 16))) 0 0 (g_A base) := by
  refine Met.ofW (cc := cX3_isKey) (maxL := 1) (ret := (some .boolean)) (by decide) rfl ?_
  intro p e s m args below meth c s₁ B hml hv
  obtain ⟨rfl, hPr⟩ := hv
  have hx := B.exec
  have hb := B.bytes
  have hr := B.returns
  have hts := atoms_spec (ws := wsX3_isKey) B.pre
  have hown : s.vm.findClass RX3 = some m.cls := findClass_of_methodNamed B.named
  have hlocks := B.notSynchronized
  have hin : meth.name = "isKey" := (name_of_methodNamed B.named B.method).1
  have hK := hPr.2.2
  have hG := hPr.gw
  have hl := lv_entry ([.int v]) (n := 1) (Nat.le_of_ble_eq_true rfl)
  rw [lg_entry_eq]
  generalize (lg_sl ([.int v]) ++ List.replicate (1 - (lg_sl ([.int v])).length) Slot.unset).toArray = ls at hl ⊢
  have hl : lv_has ls 1 [(0, .int v)] := hl
  refine g_start hPr (fun H locs hG => ?_)
  refine lv_iload_n hx hb dX3_isKey_0 rfl (lv_at hl 0 rfl) ?_
  refine lv_iconst (v := 0) hx hb dX3_isKey_1 (by decide) ?_
  refine lv_bipush (v := 15) hx hb dX3_isKey_2 (by decide) ?_
  refine g_calli (va_runS (As := [.int v, .int 0, .int 15]) (rest := []) ⟨hx, hb, hml, hown, hts⟩ (k_in l G base (v := v) (lo := 0) (hi := 15)) (cwS 3 hts gX3_isKey_X3_in rfl rfl rfl (by decide +kernel) ⟨(Nat.le_of_ble_eq_true rfl), (Nat.le_of_ble_eq_true rfl)⟩) (g_ps hK hG) rfl rfl hl.1 rfl (lv_room (Nat.le_of_ble_eq_true rfl)) dX3_isKey_4 ⟨(Nat.le_of_ble_eq_true rfl), (Nat.le_of_ble_eq_true rfl)⟩) hG (fun y1 u H locs hp hG => ?_)
  obtain ⟨e1, e2⟩ := hp
  subst e1
  refine W.widen (k := 0) (n := 0) (by omega) (by omega) ?_
  exact W.zret (v := (bi u)) hx hb hr (bi_nar u) (fun t9 h9 hW9 => ⟨⟨(bi u), u, rfl, ⟨rfl, e2.trans (okI_le (N := 16) (by decide))⟩, hG.at h9⟩, hG.2.2.1.F h9⟩) hG.2.2.1.2.2 dX3_isKey_7
set_option maxHeartbeats 4000000 in
set_option maxRecDepth 100000 in
/-- isElement -/
theorem k_isElement (l : Launch) (G : gG) (base : Nat) {L : List Nat} {K n : Nat → Nat} {rI : Nat → Nat → Int32} {rJ : Nat → Nat → Int64} {rQ : Nat → Nat → Option Nat} {fI : Nat → Nat → Int32} {fR : Nat → Nat → Option Nat} {v : Int32} : Met l yX3_isElement wsX3_isElement ({ frames := 1, cells := 0, slots := 0, locals := 22 }) (va_Pc [.int v] (g_Pr G base (L, K, n, rI, rJ, rQ, fI, fR))) (g_Qi G base (fun _ : Bool => (L, K, n, rI, rJ, rQ, fI, fR)) (fun x u => x = bi u ∧ (u = true ↔ okI v 32))) 0 0 (g_A base) := by
  refine Met.ofW (cc := cX3_isElement) (maxL := 1) (ret := (some .boolean)) (by decide) rfl ?_
  intro p e s m args below meth c s₁ B hml hv
  obtain ⟨rfl, hPr⟩ := hv
  have hx := B.exec
  have hb := B.bytes
  have hr := B.returns
  have hts := atoms_spec (ws := wsX3_isElement) B.pre
  have hown : s.vm.findClass RX3 = some m.cls := findClass_of_methodNamed B.named
  have hlocks := B.notSynchronized
  have hin : meth.name = "isElement" := (name_of_methodNamed B.named B.method).1
  have hK := hPr.2.2
  have hG := hPr.gw
  have hl := lv_entry ([.int v]) (n := 1) (Nat.le_of_ble_eq_true rfl)
  rw [lg_entry_eq]
  generalize (lg_sl ([.int v]) ++ List.replicate (1 - (lg_sl ([.int v])).length) Slot.unset).toArray = ls at hl ⊢
  have hl : lv_has ls 1 [(0, .int v)] := hl
  refine g_start hPr (fun H locs hG => ?_)
  refine lv_iload_n hx hb dX3_isElement_0 rfl (lv_at hl 0 rfl) ?_
  refine lv_iconst (v := 0) hx hb dX3_isElement_1 (by decide) ?_
  refine lv_bipush (v := 31) hx hb dX3_isElement_2 (by decide) ?_
  refine g_calli (va_runS (As := [.int v, .int 0, .int 31]) (rest := []) ⟨hx, hb, hml, hown, hts⟩ (k_in l G base (v := v) (lo := 0) (hi := 31)) (cwS 3 hts gX3_isElement_X3_in rfl rfl rfl (by decide +kernel) ⟨(Nat.le_of_ble_eq_true rfl), (Nat.le_of_ble_eq_true rfl)⟩) (g_ps hK hG) rfl rfl hl.1 rfl (lv_room (Nat.le_of_ble_eq_true rfl)) dX3_isElement_4 ⟨(Nat.le_of_ble_eq_true rfl), (Nat.le_of_ble_eq_true rfl)⟩) hG (fun y1 u H locs hp hG => ?_)
  obtain ⟨e1, e2⟩ := hp
  subst e1
  refine W.widen (k := 0) (n := 0) (by omega) (by omega) ?_
  exact W.zret (v := (bi u)) hx hb hr (bi_nar u) (fun t9 h9 hW9 => ⟨⟨(bi u), u, rfl, ⟨rfl, e2.trans (okI_le (N := 32) (by decide))⟩, hG.at h9⟩, hG.2.2.1.F h9⟩) hG.2.2.1.2.2 dX3_isElement_7
set_option maxHeartbeats 4000000 in
set_option maxRecDepth 100000 in
/-- isDelta -/
theorem k_isDelta (l : Launch) (G : gG) (base : Nat) {L : List Nat} {K n : Nat → Nat} {rI : Nat → Nat → Int32} {rJ : Nat → Nat → Int64} {rQ : Nat → Nat → Option Nat} {fI : Nat → Nat → Int32} {fR : Nat → Nat → Option Nat} {bm : Nat → Nat} {β : bT} (hM : RepM (L, K, n, rI, rJ, rQ, fI, fR) bm β) {v : Int32} : Met l yX3_isDelta wsX3_isDelta ({ frames := 1, cells := 0, slots := 0, locals := 22 }) (va_Pc [.ref (bm 0), .int v] (g_Pr G base (L, K, n, rI, rJ, rQ, fI, fR))) (g_Qi G base (fun _ : Bool => (L, K, n, rI, rJ, rQ, fI, fR)) (fun x u => x = bi u ∧ (u = true ↔ okI v (b_nd β)))) 0 0 (g_A base) := by
  have hMd : isMd L K n fR bm := hM.1
  have hMd0 := hMd
  obtain ⟨minj, mL0, mK0, ⟨mf2, mf3, mf4, mf5, mf6, mf7, mf8, mf9, mf10, mf11, mf13⟩, ⟨mL2, mK2, mn2⟩, ⟨mL3, mK3, mn3⟩, ⟨mL4, mK4, mn4⟩, ⟨mL5, mK5, mn5⟩, ⟨mL6, mK6, mn6⟩, ⟨mL7, mK7, mn7⟩, ⟨mL8, mK8, mn8⟩, ⟨mL9, mK9, mn9⟩, ⟨mL10, mK10, mn10⟩, ⟨mL11, mK11, mn11⟩, ⟨mL13, mK13, mn13⟩⟩ := hMd0
  have hdl : fI (bm 0) 1 = nI (b_nd β) := hM.2.1.1
  have hnd : b_nd β ≤ 250 := hM.2.1.2
  refine Met.ofW (cc := cX3_isDelta) (maxL := 2) (ret := (some .boolean)) (by decide) rfl ?_
  intro p e s m args below meth c s₁ B hml hv
  obtain ⟨rfl, hPr⟩ := hv
  have hx := B.exec
  have hb := B.bytes
  have hr := B.returns
  have hts := atoms_spec (ws := wsX3_isDelta) B.pre
  have hown : s.vm.findClass RX3 = some m.cls := findClass_of_methodNamed B.named
  have hlocks := B.notSynchronized
  have hin : meth.name = "isDelta" := (name_of_methodNamed B.named B.method).1
  have hK := hPr.2.2
  have hG := hPr.gw
  have hl := lv_entry ([.ref (bm 0), .int v]) (n := 2) (Nat.le_of_ble_eq_true rfl)
  rw [lg_entry_eq]
  generalize (lg_sl ([.ref (bm 0), .int v]) ++ List.replicate (2 - (lg_sl ([.ref (bm 0), .int v])).length) Slot.unset).toArray = ls at hl ⊢
  have hl : lv_has ls 2 [(0, .ref (bm 0)), (1, .int v)] := hl
  refine g_start hPr (fun H locs hG => ?_)
  refine lv_iload_n hx hb dX3_isDelta_0 rfl (lv_at hl 1 rfl) ?_
  refine lv_iconst (v := 0) hx hb dX3_isDelta_1 (by decide) ?_
  refine lv_aload_n hx hb dX3_isDelta_2 rfl (lv_at hl 0 rfl) ?_
  refine r_Model_deltas hx hb hts (by decide +kernel) hown hK hG mL0 mK0 (hts (.fieldLink RX3 72 "DotStoresModel" "deltas" "I") (by decide +kernel)) dX3_isDelta_3 ?_
  refine lv_topi (fun z1 ez1 => ?_)
  obtain rfl : z1 = nI (b_nd β) := ez1.trans (hdl)
  refine lv_iconst (v := 1) hx hb dX3_isDelta_6 (by decide) ?_
  refine lv_isub hx hb dX3_isDelta_7 ?_
  refine g_calli (va_runS (As := [.int v, .int 0, .int ((nI (b_nd β)) - 1)]) (rest := []) ⟨hx, hb, hml, hown, hts⟩ (k_in l G base (v := v) (lo := 0) (hi := nI (b_nd β) - 1)) (cwS 3 hts gX3_isDelta_X3_in rfl rfl rfl (by decide +kernel) ⟨(Nat.le_of_ble_eq_true rfl), (Nat.le_of_ble_eq_true rfl)⟩) (g_ps hK hG) rfl rfl hl.1 rfl (lv_room (Nat.le_of_ble_eq_true rfl)) dX3_isDelta_8 ⟨(Nat.le_of_ble_eq_true rfl), (Nat.le_of_ble_eq_true rfl)⟩) hG (fun y1 u H locs hp hG => ?_)
  obtain ⟨e1, e2⟩ := hp
  subst e1
  refine W.widen (k := 0) (n := 0) (by omega) (by omega) ?_
  exact W.zret (v := (bi u)) hx hb hr (bi_nar u) (fun t9 h9 hW9 => ⟨⟨(bi u), u, rfl, ⟨rfl, e2.trans (okI_le (N := b_nd β) (by omega))⟩, hG.at h9⟩, hG.2.2.1.F h9⟩) hG.2.2.1.2.2 dX3_isDelta_11
set_option maxHeartbeats 4000000 in
set_option maxRecDepth 100000 in
/-- goes -/
theorem k_goes (l : Launch) (G : gG) (base : Nat) {L : List Nat} {K n : Nat → Nat} {rI : Nat → Nat → Int32} {rJ : Nat → Nat → Int64} {rQ : Nat → Nat → Option Nat} {fI : Nat → Nat → Int32} {fR : Nat → Nat → Option Nat} {bm : Nat → Nat} {β : bT} (hM : RepM (L, K, n, rI, rJ, rQ, fI, fR) bm β) {g : Bool} : Met l yX3_goes wsX3_goes ({ frames := 0, cells := 0, slots := 0, locals := 0 }) (va_Pc [.ref (bm 0), .int (bi g)] (g_Pr G base (L, K, n, rI, rJ, rQ, fI, fR))) (g_Qi G base (fun _ : Unit => (L, K, n, rI, rJ, rQ, g_up fI (bm 0) 0 (bi (!g)), fR)) (fun x _ => x = bi g)) 0 0 (g_A base) := by
  have hMd : isMd L K n fR bm := hM.1
  have hMd0 := hMd
  obtain ⟨minj, mL0, mK0, ⟨mf2, mf3, mf4, mf5, mf6, mf7, mf8, mf9, mf10, mf11, mf13⟩, ⟨mL2, mK2, mn2⟩, ⟨mL3, mK3, mn3⟩, ⟨mL4, mK4, mn4⟩, ⟨mL5, mK5, mn5⟩, ⟨mL6, mK6, mn6⟩, ⟨mL7, mK7, mn7⟩, ⟨mL8, mK8, mn8⟩, ⟨mL9, mK9, mn9⟩, ⟨mL10, mK10, mn10⟩, ⟨mL11, mK11, mn11⟩, ⟨mL13, mK13, mn13⟩⟩ := hMd0
  have hdl : fI (bm 0) 1 = nI (b_nd β) := hM.2.1.1
  have hnd : b_nd β ≤ 250 := hM.2.1.2
  refine Met.ofW (cc := cX3_goes) (maxL := 2) (ret := (some .boolean)) (by decide) rfl ?_
  intro p e s m args below meth c s₁ B hml hv
  obtain ⟨rfl, hPr⟩ := hv
  have hx := B.exec
  have hb := B.bytes
  have hr := B.returns
  have hts := atoms_spec (ws := wsX3_goes) B.pre
  have hown : s.vm.findClass RX3 = some m.cls := findClass_of_methodNamed B.named
  have hlocks := B.notSynchronized
  have hin : meth.name = "goes" := (name_of_methodNamed B.named B.method).1
  have hK := hPr.2.2
  have hG := hPr.gw
  have hl := lv_entry ([.ref (bm 0), .int (bi g)]) (n := 2) (Nat.le_of_ble_eq_true rfl)
  rw [lg_entry_eq]
  generalize (lg_sl ([.ref (bm 0), .int (bi g)]) ++ List.replicate (2 - (lg_sl ([.ref (bm 0), .int (bi g)])).length) Slot.unset).toArray = ls at hl ⊢
  have hl : lv_has ls 2 [(0, .ref (bm 0)), (1, .int (bi g))] := hl
  refine g_start hPr (fun H locs hG => ?_)
  refine lv_aload_n hx hb dX3_goes_0 rfl (lv_at hl 0 rfl) ?_
  refine lv_iload_n hx hb dX3_goes_1 rfl (lv_at hl 1 rfl) ?_
  refine lv_if_eq (tgt := 9) hx hb dX3_goes_2 (by decide) (fun c1 => ?_) (fun c1 => ?_)
  · have c1 := bi_0.mp c1
    subst c1
    refine lv_iconst (v := 1) hx hb dX3_goes_9 (by decide) ?_
    refine w_Model_thrown hx hb hts (by decide +kernel) hown hK hG mL0 mK0 (hts (.fieldLink RX3 45 "DotStoresModel" "thrown" "I") (by decide +kernel)) dX3_goes_10 (fun H locs hG => ?_)
    refine lv_iload_n hx hb dX3_goes_13 rfl (lv_at hl 1 rfl) ?_
    refine W.widen (k := 0) (n := 0) (by omega) (by omega) ?_
    exact W.zret (v := (bi false)) hx hb hr rfl (fun t9 h9 hW9 => ⟨⟨(bi false), (), rfl, rfl, hG.at h9⟩, hG.2.2.1.F h9⟩) hG.2.2.1.2.2 dX3_goes_14
  · have c1 := ts_nf (fun z => c1 (bi_0.mpr z))
    subst c1
    refine lv_iconst (v := 0) hx hb dX3_goes_5 (by decide) ?_
    refine lv_goto (tgt := 10) hx hb dX3_goes_6 (by decide) ?_
    refine w_Model_thrown hx hb hts (by decide +kernel) hown hK hG mL0 mK0 (hts (.fieldLink RX3 45 "DotStoresModel" "thrown" "I") (by decide +kernel)) dX3_goes_10 (fun H locs hG => ?_)
    refine lv_iload_n hx hb dX3_goes_13 rfl (lv_at hl 1 rfl) ?_
    refine W.widen (k := 0) (n := 0) (by omega) (by omega) ?_
    exact W.zret (v := (bi true)) hx hb hr rfl (fun t9 h9 hW9 => ⟨⟨(bi true), (), rfl, rfl, hG.at h9⟩, hG.2.2.1.F h9⟩) hG.2.2.1.2.2 dX3_goes_14
set_option maxHeartbeats 4000000 in
set_option maxRecDepth 100000 in
/-- thrown -/
theorem k_thrown (l : Launch) (G : gG) (base : Nat) {L : List Nat} {K n : Nat → Nat} {rI : Nat → Nat → Int32} {rJ : Nat → Nat → Int64} {rQ : Nat → Nat → Option Nat} {fI : Nat → Nat → Int32} {fR : Nat → Nat → Option Nat} {bm : Nat → Nat} {β : bT} (hM : RepM (L, K, n, rI, rJ, rQ, fI, fR) bm β) : Met l yX3_thrown wsX3_thrown ({ frames := 0, cells := 0, slots := 0, locals := 0 }) (va_Pc [.ref (bm 0)] (g_Pr G base (L, K, n, rI, rJ, rQ, fI, fR))) (g_Qi G base (fun _ : Unit => (L, K, n, rI, rJ, rQ, fI, fR)) (fun x _ => x = fI (bm 0) 0)) 0 0 (g_A base) := by
  have hMd : isMd L K n fR bm := hM.1
  have hMd0 := hMd
  obtain ⟨minj, mL0, mK0, ⟨mf2, mf3, mf4, mf5, mf6, mf7, mf8, mf9, mf10, mf11, mf13⟩, ⟨mL2, mK2, mn2⟩, ⟨mL3, mK3, mn3⟩, ⟨mL4, mK4, mn4⟩, ⟨mL5, mK5, mn5⟩, ⟨mL6, mK6, mn6⟩, ⟨mL7, mK7, mn7⟩, ⟨mL8, mK8, mn8⟩, ⟨mL9, mK9, mn9⟩, ⟨mL10, mK10, mn10⟩, ⟨mL11, mK11, mn11⟩, ⟨mL13, mK13, mn13⟩⟩ := hMd0
  have hdl : fI (bm 0) 1 = nI (b_nd β) := hM.2.1.1
  have hnd : b_nd β ≤ 250 := hM.2.1.2
  refine Met.ofW (cc := cX3_thrown) (maxL := 1) (ret := (some .int)) (by decide) rfl ?_
  intro p e s m args below meth c s₁ B hml hv
  obtain ⟨rfl, hPr⟩ := hv
  have hx := B.exec
  have hb := B.bytes
  have hr := B.returns
  have hts := atoms_spec (ws := wsX3_thrown) B.pre
  have hown : s.vm.findClass RX3 = some m.cls := findClass_of_methodNamed B.named
  have hlocks := B.notSynchronized
  have hin : meth.name = "thrown" := (name_of_methodNamed B.named B.method).1
  have hK := hPr.2.2
  have hG := hPr.gw
  have hl := lv_entry ([.ref (bm 0)]) (n := 1) (Nat.le_of_ble_eq_true rfl)
  rw [lg_entry_eq]
  generalize (lg_sl ([.ref (bm 0)]) ++ List.replicate (1 - (lg_sl ([.ref (bm 0)])).length) Slot.unset).toArray = ls at hl ⊢
  have hl : lv_has ls 1 [(0, .ref (bm 0))] := hl
  refine g_start hPr (fun H locs hG => ?_)
  refine lv_aload_n hx hb dX3_thrown_0 rfl (lv_at hl 0 rfl) ?_
  refine r_Model_thrown hx hb hts (by decide +kernel) hown hK hG mL0 mK0 (hts (.fieldLink RX3 45 "DotStoresModel" "thrown" "I") (by decide +kernel)) dX3_thrown_1 ?_
  refine W.widen (k := 0) (n := 0) (by omega) (by omega) ?_
  exact W.iret (v := (fI (bm 0) 0)) hx hb hr (fun t9 h9 hW9 => ⟨⟨(fI (bm 0) 0), (), rfl, rfl, hG.at h9⟩, hG.2.2.1.F h9⟩) hG.2.2.1.2.2 dX3_thrown_4
set_option maxHeartbeats 4000000 in
set_option maxRecDepth 100000 in
/-- deltas -/
theorem k_deltas (l : Launch) (G : gG) (base : Nat) {L : List Nat} {K n : Nat → Nat} {rI : Nat → Nat → Int32} {rJ : Nat → Nat → Int64} {rQ : Nat → Nat → Option Nat} {fI : Nat → Nat → Int32} {fR : Nat → Nat → Option Nat} {bm : Nat → Nat} {β : bT} (hM : RepM (L, K, n, rI, rJ, rQ, fI, fR) bm β) : Met l yX3_deltas wsX3_deltas ({ frames := 0, cells := 0, slots := 0, locals := 0 }) (va_Pc [.ref (bm 0)] (g_Pr G base (L, K, n, rI, rJ, rQ, fI, fR))) (g_Qi G base (fun _ : Unit => (L, K, n, rI, rJ, rQ, g_up fI (bm 0) 0 0, fR)) (fun x _ => x = nI (b_nd β))) 0 0 (g_A base) := by
  have hMd : isMd L K n fR bm := hM.1
  have hMd0 := hMd
  obtain ⟨minj, mL0, mK0, ⟨mf2, mf3, mf4, mf5, mf6, mf7, mf8, mf9, mf10, mf11, mf13⟩, ⟨mL2, mK2, mn2⟩, ⟨mL3, mK3, mn3⟩, ⟨mL4, mK4, mn4⟩, ⟨mL5, mK5, mn5⟩, ⟨mL6, mK6, mn6⟩, ⟨mL7, mK7, mn7⟩, ⟨mL8, mK8, mn8⟩, ⟨mL9, mK9, mn9⟩, ⟨mL10, mK10, mn10⟩, ⟨mL11, mK11, mn11⟩, ⟨mL13, mK13, mn13⟩⟩ := hMd0
  have hdl : fI (bm 0) 1 = nI (b_nd β) := hM.2.1.1
  have hnd : b_nd β ≤ 250 := hM.2.1.2
  refine Met.ofW (cc := cX3_deltas) (maxL := 1) (ret := (some .int)) (by decide) rfl ?_
  intro p e s m args below meth c s₁ B hml hv
  obtain ⟨rfl, hPr⟩ := hv
  have hx := B.exec
  have hb := B.bytes
  have hr := B.returns
  have hts := atoms_spec (ws := wsX3_deltas) B.pre
  have hown : s.vm.findClass RX3 = some m.cls := findClass_of_methodNamed B.named
  have hlocks := B.notSynchronized
  have hin : meth.name = "deltas" := (name_of_methodNamed B.named B.method).1
  have hK := hPr.2.2
  have hG := hPr.gw
  have hl := lv_entry ([.ref (bm 0)]) (n := 1) (Nat.le_of_ble_eq_true rfl)
  rw [lg_entry_eq]
  generalize (lg_sl ([.ref (bm 0)]) ++ List.replicate (1 - (lg_sl ([.ref (bm 0)])).length) Slot.unset).toArray = ls at hl ⊢
  have hl : lv_has ls 1 [(0, .ref (bm 0))] := hl
  refine g_start hPr (fun H locs hG => ?_)
  refine lv_aload_n hx hb dX3_deltas_0 rfl (lv_at hl 0 rfl) ?_
  refine lv_iconst (v := 0) hx hb dX3_deltas_1 (by decide) ?_
  refine w_Model_thrown hx hb hts (by decide +kernel) hown hK hG mL0 mK0 (hts (.fieldLink RX3 45 "DotStoresModel" "thrown" "I") (by decide +kernel)) dX3_deltas_2 (fun H locs hG => ?_)
  refine lv_aload_n hx hb dX3_deltas_5 rfl (lv_at hl 0 rfl) ?_
  refine r_Model_deltas hx hb hts (by decide +kernel) hown hK hG mL0 mK0 (hts (.fieldLink RX3 72 "DotStoresModel" "deltas" "I") (by decide +kernel)) dX3_deltas_6 ?_
  refine lv_topi (fun z1 ez1 => ?_)
  obtain rfl : z1 = nI (b_nd β) := ez1.trans ((by rw [g_up_i _ _ _ _ (by decide)]; exact hdl))
  refine W.widen (k := 0) (n := 0) (by omega) (by omega) ?_
  exact W.iret (v := (nI (b_nd β))) hx hb hr (fun t9 h9 hW9 => ⟨⟨(nI (b_nd β)), (), rfl, rfl, hG.at h9⟩, hG.2.2.1.F h9⟩) hG.2.2.1.2.2 dX3_deltas_9
set_option maxHeartbeats 4000000 in
set_option maxRecDepth 100000 in
/-- dot -/
theorem k_dot (l : Launch) (G : gG) (base : Nat) {L : List Nat} {K n : Nat → Nat} {rI : Nat → Nat → Int32} {rJ : Nat → Nat → Int64} {rQ : Nat → Nat → Option Nat} {fI : Nat → Nat → Int32} {fR : Nat → Nat → Option Nat} {q m1 : Nat} : Met l yX3_dot wsX3_dot ({ frames := 0, cells := 0, slots := 0, locals := 0 }) (va_Pc [.int (nI q), .int (nI m1)] (g_Pr G base (L, K, n, rI, rJ, rQ, fI, fR))) (g_Qi G base (fun _ : Unit => (L, K, n, rI, rJ, rQ, fI, fR)) (fun x _ => x = nI (101 * q + m1))) 0 0 (g_A base) := by
  refine Met.ofW (cc := cX3_dot) (maxL := 2) (ret := (some .int)) (by decide) rfl ?_
  intro p e s m args below meth c s₁ B hml hv
  obtain ⟨rfl, hPr⟩ := hv
  have hx := B.exec
  have hb := B.bytes
  have hr := B.returns
  have hts := atoms_spec (ws := wsX3_dot) B.pre
  have hown : s.vm.findClass RX3 = some m.cls := findClass_of_methodNamed B.named
  have hlocks := B.notSynchronized
  have hin : meth.name = "dot" := (name_of_methodNamed B.named B.method).1
  have hK := hPr.2.2
  have hG := hPr.gw
  have hl := lv_entry ([.int (nI q), .int (nI m1)]) (n := 2) (Nat.le_of_ble_eq_true rfl)
  rw [lg_entry_eq]
  generalize (lg_sl ([.int (nI q), .int (nI m1)]) ++ List.replicate (2 - (lg_sl ([.int (nI q), .int (nI m1)])).length) Slot.unset).toArray = ls at hl ⊢
  have hl : lv_has ls 2 [(0, .int (nI q)), (1, .int (nI m1))] := hl
  refine g_start hPr (fun H locs hG => ?_)
  refine lv_bipush (v := 101) hx hb dX3_dot_0 (by decide) ?_
  refine lv_iload_n hx hb dX3_dot_2 rfl (lv_at hl 0 rfl) ?_
  refine lv_imul hx hb dX3_dot_3 ?_
  refine lv_iload_n hx hb dX3_dot_4 rfl (lv_at hl 1 rfl) ?_
  refine lv_iadd hx hb dX3_dot_5 ?_
  refine W.widen (k := 0) (n := 0) (by omega) (by omega) ?_
  exact W.iret (v := ((101 * (nI q)) + (nI m1))) hx hb hr (fun t9 h9 hW9 => ⟨⟨((101 * (nI q)) + (nI m1)), (), rfl, m101 q m1, hG.at h9⟩, hG.2.2.1.F h9⟩) hG.2.2.1.2.2 dX3_dot_6
/-- the bit of the dot (r, p + 1) -/
theorem mrb (f : Nat → Int64) (k r p : Nat) : rb (mr f k) (128 * r + p) = lb (f (12 * k + 2 * r + p / 64)) (p % 64) := by
  unfold rb mr
  rw [show (128 * r + p) / 64 = 2 * r + p / 64 by omega, show (128 * r + p) % 64 = p % 64 by omega, ← Nat.add_assoc]
theorem mix (k r p : Nat) : 12 * nI k + 2 * nI r + nI (p / 64) = nI (12 * k + 2 * r + p / 64) := by rw [show (12 : Int32) = nI 12 from rfl, show (2 : Int32) = nI 2 from rfl, nI_mul, nI_mul, nI_add, nI_add]
theorem upR_id {α : Type} {f : Nat → α} {lo w : Nat} : upR f f lo w (fun v => f (lo + v)) := ⟨fun _ _ => rfl, fun _ _ => rfl⟩
/-- the bits behind set -/
theorem mset {rJ : Nat → Nat → Int64} {b k r p : Nat} (i : Nat) : rb (mr (g_up rJ b (12 * k + 2 * r + p / 64) (rJ b (12 * k + 2 * r + p / 64) ||| (1 <<< ((nI (p % 64)).toInt64 &&& 63))) b) k) i = (rb (mr (rJ b) k) i || decide (i = 128 * r + p)) := by
  unfold rb mr
  by_cases e : i / 64 = 2 * r + p / 64
  · rw [show 12 * k + i / 64 = 12 * k + 2 * r + p / 64 by omega, g_up_at, lb_or, lb_one (Nat.mod_lt _ (by decide))]
    congr 1
    by_cases q : i = 128 * r + p
    · subst q; simp; omega
    · have : ¬ i % 64 = p % 64 := fun z => q (by omega)
      simp [q, this]
  · rw [g_up_i _ _ _ _ (by omega)]
    have : ¬ i = 128 * r + p := fun z => e (by omega)
    simp [this]
theorem mset_u {rJ : Nat → Nat → Int64} {b k r p : Nat} {x : Int64} (hr : r < 6) (hp : p < 128) : upR (rJ b) (g_up rJ b (12 * k + 2 * r + p / 64) x b) (12 * k) 12 (mr (g_up rJ b (12 * k + 2 * r + p / 64) x b) k) :=
  ⟨fun _ _ => rfl, fun j hj => g_up_i _ _ _ _ (by omega)⟩
set_option maxHeartbeats 4000000 in
set_option maxRecDepth 100000 in
/-- isSet -/
theorem k_isSet (l : Launch) (G : gG) (base : Nat) {L : List Nat} {K n : Nat → Nat} {rI : Nat → Nat → Int32} {rJ : Nat → Nat → Int64} {rQ : Nat → Nat → Option Nat} {fI : Nat → Nat → Int32} {fR : Nat → Nat → Option Nat} {b k q pp : Nat} (hLb : b ∈ L) (hKb : K b = 5) (hnb : n b = 3084) (hk : k < 257) (hq : q < 6) (hpp : pp < 128) : Met l yX3_isSet wsX3_isSet ({ frames := 0, cells := 0, slots := 0, locals := 0 }) (va_Pc [.ref b, .int (nI k), .int (nI q), .int (nI (pp + 1))] (g_Pr G base (L, K, n, rI, rJ, rQ, fI, fR))) (g_Qi G base (fun _ : Unit => (L, K, n, rI, rJ, rQ, fI, fR)) (fun x _ => x = bi (rb (mr (rJ b) k) (128 * q + pp)))) 0 0 (g_A base) := by
  refine Met.ofW (cc := cX3_isSet) (maxL := 4) (ret := (some .boolean)) (by decide) rfl ?_
  intro p e s m args below meth c s₁ B hml hv
  obtain ⟨rfl, hPr⟩ := hv
  have hx := B.exec
  have hb := B.bytes
  have hr := B.returns
  have hts := atoms_spec (ws := wsX3_isSet) B.pre
  have hown : s.vm.findClass RX3 = some m.cls := findClass_of_methodNamed B.named
  have hlocks := B.notSynchronized
  have hin : meth.name = "isSet" := (name_of_methodNamed B.named B.method).1
  have hK := hPr.2.2
  have hG := hPr.gw
  have hl := lv_entry ([.ref b, .int (nI k), .int (nI q), .int (nI (pp + 1))]) (n := 4) (Nat.le_of_ble_eq_true rfl)
  rw [lg_entry_eq]
  generalize (lg_sl ([.ref b, .int (nI k), .int (nI q), .int (nI (pp + 1))]) ++ List.replicate (4 - (lg_sl ([.ref b, .int (nI k), .int (nI q), .int (nI (pp + 1))])).length) Slot.unset).toArray = ls at hl ⊢
  have hl : lv_has ls 4 [(0, .ref b), (1, .int (nI k)), (2, .int (nI q)), (3, .int (nI (pp + 1)))] := hl
  refine g_start hPr (fun H locs hG => ?_)
  refine lv_aload_n hx hb dX3_isSet_0 rfl (lv_at hl 0 rfl) ?_
  refine lv_bipush (v := 12) hx hb dX3_isSet_1 (by decide) ?_
  refine lv_iload_n hx hb dX3_isSet_3 rfl (lv_at hl 1 rfl) ?_
  refine lv_imul hx hb dX3_isSet_4 ?_
  refine lv_iconst (v := 2) hx hb dX3_isSet_5 (by decide) ?_
  refine lv_iload_n hx hb dX3_isSet_6 rfl (lv_at hl 2 rfl) ?_
  refine lv_imul hx hb dX3_isSet_7 ?_
  refine lv_iadd hx hb dX3_isSet_8 ?_
  refine lv_iload_n hx hb dX3_isSet_9 rfl (lv_at hl 3 rfl) ?_
  refine lv_iconst (v := 1) hx hb dX3_isSet_10 (by decide) ?_
  refine lv_isub hx hb dX3_isSet_11 ?_
  refine lv_topi (fun z1 ez1 => ?_)
  obtain rfl : z1 = nI pp := ez1.trans (nI_pred pp)
  refine lv_bipush (v := 64) hx hb dX3_isSet_12 (by decide) ?_
  refine lv_idiv hx hb dX3_isSet_14 (by decide) ?_
  refine lv_topi (fun z2 ez2 => ?_)
  obtain rfl : z2 = nI (pp / 64) := ez2.trans (pk_div (a := pp) (d := 64) (by omega) (by decide) (by decide))
  refine lv_iadd hx hb dX3_isSet_15 ?_
  refine lv_topi (fun z3 ez3 => ?_)
  obtain rfl : z3 = nI (12 * k + 2 * q + pp / 64) := ez3.trans (mix k q pp)
  refine g_lald hx hb hK hG hLb hKb (12 * k + 2 * q + pp / 64) rfl (by rw [hnb]; omega) (by rw [hnb]; decide) dX3_isSet_16 ?_
  refine lv_iload_n hx hb dX3_isSet_17 rfl (lv_at hl 3 rfl) ?_
  refine lv_iconst (v := 1) hx hb dX3_isSet_18 (by decide) ?_
  refine lv_isub hx hb dX3_isSet_19 ?_
  refine lv_topi (fun z4 ez4 => ?_)
  obtain rfl : z4 = nI pp := ez4.trans (nI_pred pp)
  refine lv_bipush (v := 64) hx hb dX3_isSet_20 (by decide) ?_
  refine lv_irem hx hb dX3_isSet_22 (by decide) ?_
  refine lv_topi (fun z5 ez5 => ?_)
  obtain rfl : z5 = nI (pp % 64) := ez5.trans (pk_rem (a := pp) (d := 64) (by omega) (by decide) (by decide))
  refine lv_lshr hx hb dX3_isSet_23 rfl ?_
  refine lv_lconst (v := 1) hx hb dX3_isSet_24 (by decide) ?_
  refine lv_land hx hb dX3_isSet_25 ?_
  refine lv_lconst (v := 1) hx hb dX3_isSet_26 (by decide) ?_
  refine W.lcmp hx hb dX3_isSet_27 ?_
  refine lv_if_ne (tgt := 35) hx hb dX3_isSet_28 (by decide) (fun c1 => ?_) (fun c1 => ?_)
  · have c2 : lb (rJ b (12 * k + 2 * q + pp / 64)) (pp % 64) = false := by
      cases z : lb (rJ b (12 * k + 2 * q + pp / 64)) (pp % 64) with
      | false => rfl
      | true => exact absurd ((lg_cmp_eq _ _).mpr (by rw [lb_testS (Nat.mod_lt pp (by decide)), z]; rfl)) c1
    refine lv_iconst (v := 0) hx hb dX3_isSet_35 (by decide) ?_
    refine W.widen (k := 0) (n := 0) (by omega) (by omega) ?_
    exact W.zret (v := 0) hx hb hr rfl (fun t9 h9 hW9 => ⟨⟨0, (), rfl, (by rw [mrb, c2]; rfl), hG.at h9⟩, hG.2.2.1.F h9⟩) hG.2.2.1.2.2 dX3_isSet_36
  · have c2 : lb (rJ b (12 * k + 2 * q + pp / 64)) (pp % 64) = true := by
      have c3 := (lg_cmp_eq _ _).mp (by first | exact c1 | exact Classical.not_not.mp c1)
      rw [lb_testS (Nat.mod_lt pp (by decide))] at c3
      cases z : lb (rJ b (12 * k + 2 * q + pp / 64)) (pp % 64) with
      | true => rfl
      | false => rw [z] at c3; exact absurd c3 (by decide)
    refine lv_iconst (v := 1) hx hb dX3_isSet_31 (by decide) ?_
    refine lv_goto (tgt := 36) hx hb dX3_isSet_32 (by decide) ?_
    refine W.widen (k := 0) (n := 0) (by omega) (by omega) ?_
    exact W.zret (v := 1) hx hb hr rfl (fun t9 h9 hW9 => ⟨⟨1, (), rfl, (by rw [mrb, c2]; rfl), hG.at h9⟩, hG.2.2.1.F h9⟩) hG.2.2.1.2.2 dX3_isSet_36
set_option maxHeartbeats 4000000 in
set_option maxRecDepth 100000 in
/-- set -/
theorem k_set (l : Launch) (G : gG) (base : Nat) {L : List Nat} {K n : Nat → Nat} {rI : Nat → Nat → Int32} {rJ : Nat → Nat → Int64} {rQ : Nat → Nat → Option Nat} {fI : Nat → Nat → Int32} {fR : Nat → Nat → Option Nat} {b k q pp : Nat} (hLb : b ∈ L) (hKb : K b = 5) (hnb : n b = 3084) (hk : k < 257) (hq : q < 6) (hpp : pp < 128) : Met l yX3_set wsX3_set ({ frames := 0, cells := 0, slots := 0, locals := 0 }) (va_Pc [.ref b, .int (nI k), .int (nI q), .int (nI (pp + 1))] (g_Pr G base (L, K, n, rI, rJ, rQ, fI, fR))) (g_Qv G base (fun u : Nat → Nat → Int64 => (L, K, n, rI, u, rQ, fI, fR)) (fun u => u = g_up rJ b (12 * k + 2 * q + pp / 64) (rJ b (12 * k + 2 * q + pp / 64) ||| (1 <<< ((nI (pp % 64)).toInt64 &&& 63))))) 0 0 (g_A base) := by
  refine Met.ofW (cc := cX3_set) (maxL := 5) (ret := none) (by decide) rfl ?_
  intro p e s m args below meth c s₁ B hml hv
  obtain ⟨rfl, hPr⟩ := hv
  have hx := B.exec
  have hb := B.bytes
  have hr := B.returns
  have hts := atoms_spec (ws := wsX3_set) B.pre
  have hown : s.vm.findClass RX3 = some m.cls := findClass_of_methodNamed B.named
  have hlocks := B.notSynchronized
  have hin : meth.name = "set" := (name_of_methodNamed B.named B.method).1
  have hK := hPr.2.2
  have hG := hPr.gw
  have hl := lv_entry ([.ref b, .int (nI k), .int (nI q), .int (nI (pp + 1))]) (n := 5) (Nat.le_of_ble_eq_true rfl)
  rw [lg_entry_eq]
  generalize (lg_sl ([.ref b, .int (nI k), .int (nI q), .int (nI (pp + 1))]) ++ List.replicate (5 - (lg_sl ([.ref b, .int (nI k), .int (nI q), .int (nI (pp + 1))])).length) Slot.unset).toArray = ls at hl ⊢
  have hl : lv_has ls 5 [(0, .ref b), (1, .int (nI k)), (2, .int (nI q)), (3, .int (nI (pp + 1)))] := hl
  refine g_start hPr (fun H locs hG => ?_)
  refine lv_bipush (v := 12) hx hb dX3_set_0 (by decide) ?_
  refine lv_iload_n hx hb dX3_set_2 rfl (lv_at hl 1 rfl) ?_
  refine lv_imul hx hb dX3_set_3 ?_
  refine lv_iconst (v := 2) hx hb dX3_set_4 (by decide) ?_
  refine lv_iload_n hx hb dX3_set_5 rfl (lv_at hl 2 rfl) ?_
  refine lv_imul hx hb dX3_set_6 ?_
  refine lv_iadd hx hb dX3_set_7 ?_
  refine lv_iload_n hx hb dX3_set_8 rfl (lv_at hl 3 rfl) ?_
  refine lv_iconst (v := 1) hx hb dX3_set_9 (by decide) ?_
  refine lv_isub hx hb dX3_set_10 ?_
  refine lv_topi (fun z1 ez1 => ?_)
  obtain rfl : z1 = nI pp := ez1.trans (nI_pred pp)
  refine lv_bipush (v := 64) hx hb dX3_set_11 (by decide) ?_
  refine lv_idiv hx hb dX3_set_13 (by decide) ?_
  refine lv_topi (fun z2 ez2 => ?_)
  obtain rfl : z2 = nI (pp / 64) := ez2.trans (pk_div (a := pp) (d := 64) (by omega) (by decide) (by decide))
  refine lv_iadd hx hb dX3_set_14 ?_
  refine lv_topi (fun z3 ez3 => ?_)
  obtain rfl : z3 = nI (12 * k + 2 * q + pp / 64) := ez3.trans (mix k q pp)
  refine lv_istore (lv' := [(4, .int (nI (12 * k + 2 * q + pp / 64))), (0, .ref b), (1, .int (nI k)), (2, .int (nI q)), (3, .int (nI (pp + 1)))]) hx hb dX3_set_15 hl (by decide) rfl (fun ls hl => ?_)
  refine lv_aload_n hx hb dX3_set_17 rfl (lv_at hl 1 rfl) ?_
  refine lv_iload hx hb dX3_set_18 (lv_at hl 0 rfl) ?_
  refine lv_aload_n hx hb dX3_set_20 rfl (lv_at hl 1 rfl) ?_
  refine lv_iload hx hb dX3_set_21 (lv_at hl 0 rfl) ?_
  refine g_lald hx hb hK hG hLb hKb (12 * k + 2 * q + pp / 64) rfl (by rw [hnb]; omega) (by rw [hnb]; decide) dX3_set_23 ?_
  refine lv_lconst (v := 1) hx hb dX3_set_24 (by decide) ?_
  refine lv_iload_n hx hb dX3_set_25 rfl (lv_at hl 4 rfl) ?_
  refine lv_iconst (v := 1) hx hb dX3_set_26 (by decide) ?_
  refine lv_isub hx hb dX3_set_27 ?_
  refine lv_topi (fun z4 ez4 => ?_)
  obtain rfl : z4 = nI pp := ez4.trans (nI_pred pp)
  refine lv_bipush (v := 64) hx hb dX3_set_28 (by decide) ?_
  refine lv_irem hx hb dX3_set_30 (by decide) ?_
  refine lv_topi (fun z5 ez5 => ?_)
  obtain rfl : z5 = nI (pp % 64) := ez5.trans (pk_rem (a := pp) (d := 64) (by omega) (by decide) (by decide))
  refine lv_lshl hx hb dX3_set_31 rfl ?_
  refine lv_lor hx hb dX3_set_32 ?_
  refine g_last hx hb hK hG hLb hKb (12 * k + 2 * q + pp / 64) rfl (by rw [hnb]; omega) (by rw [hnb]; decide) dX3_set_33 (fun H locs hG => ?_)
  refine W.widen (k := 0) (n := 0) (by omega) (by omega) ?_
  exact W.vret hx hb hr (fun t9 h9 hW9 => ⟨⟨_, rfl, rfl, hG.at h9⟩, hG.2.2.1.F h9⟩) hG.2.2.1.2.2 dX3_set_34
/-- the greatest number up to w that is set -/
def grN (P : Nat → Bool) : Nat → Nat
  | 0 => 0
  | w + 1 => if P w then w + 1 else grN P w
theorem grN_le (P : Nat → Bool) (w : Nat) : grN P w ≤ w := by
  induction w with
  | zero => exact Nat.le_refl _
  | succ w ih => unfold grN; split <;> omega
theorem grN_t {P : Nat → Bool} {w : Nat} (h : P w = true) : grN P (w + 1) = w + 1 := by simp [grN, h]
theorem grN_f {P : Nat → Bool} {w : Nat} (h : P w = false) : grN P (w + 1) = grN P w := by simp [grN, h]
theorem repM_S {τ : gS} {bm : Nat → Nat} {β : bT} (h : RepM τ bm β) {k q pp : Nat} (hk : k < 257) (hq : q < 6) (hpp : pp < 128) : rb (mr (τ.2.2.2.2.1 (bm 2)) k) (128 * q + pp) = b_S β k (128 * q + pp) := (h.2.2.1 k hk _ (by omega)).1
theorem repM_L {τ : gS} {bm : Nat → Nat} {β : bT} (h : RepM τ bm β) {k q pp : Nat} (hk : k < 257) (hq : q < 6) (hpp : pp < 128) : rb (mr (τ.2.2.2.2.1 (bm 3)) k) (128 * q + pp) = b_L β k (128 * q + pp) := (h.2.2.1 k hk _ (by omega)).2
set_option maxHeartbeats 4000000 in
set_option maxRecDepth 100000 in
/-- greatest -/
theorem k_greatest (l : Launch) (G : gG) (base : Nat) {L : List Nat} {K n : Nat → Nat} {rI : Nat → Nat → Int32} {rJ : Nat → Nat → Int64} {rQ : Nat → Nat → Option Nat} {fI : Nat → Nat → Int32} {fR : Nat → Nat → Option Nat} {bm : Nat → Nat} {β : bT} (hM : RepM (L, K, n, rI, rJ, rQ, fI, fR) bm β) {k q : Nat} (hk : k < 257) (hq : q < 6) : Met l yX3_greatest wsX3_greatest ({ frames := 1, cells := 0, slots := 0, locals := 23 }) (va_Pc [.ref (bm 0), .int (nI k), .int (nI q)] (g_Pr G base (L, K, n, rI, rJ, rQ, fI, fR))) (g_Qi G base (fun _ : Unit => (L, K, n, rI, rJ, rQ, fI, fR)) (fun x _ => x = nI (grN (fun i => b_S β k (128 * q + i)) 100))) 0 0 (g_A base) := by
  have hMd : isMd L K n fR bm := hM.1
  have hMd0 := hMd
  obtain ⟨minj, mL0, mK0, ⟨mf2, mf3, mf4, mf5, mf6, mf7, mf8, mf9, mf10, mf11, mf13⟩, ⟨mL2, mK2, mn2⟩, ⟨mL3, mK3, mn3⟩, ⟨mL4, mK4, mn4⟩, ⟨mL5, mK5, mn5⟩, ⟨mL6, mK6, mn6⟩, ⟨mL7, mK7, mn7⟩, ⟨mL8, mK8, mn8⟩, ⟨mL9, mK9, mn9⟩, ⟨mL10, mK10, mn10⟩, ⟨mL11, mK11, mn11⟩, ⟨mL13, mK13, mn13⟩⟩ := hMd0
  have hdl : fI (bm 0) 1 = nI (b_nd β) := hM.2.1.1
  have hnd : b_nd β ≤ 250 := hM.2.1.2
  refine Met.ofW (cc := cX3_greatest) (maxL := 4) (ret := (some .int)) (by decide) rfl ?_
  intro p e s m args below meth c s₁ B hml hv
  obtain ⟨rfl, hPr⟩ := hv
  have hx := B.exec
  have hb := B.bytes
  have hr := B.returns
  have hts := atoms_spec (ws := wsX3_greatest) B.pre
  have hown : s.vm.findClass RX3 = some m.cls := findClass_of_methodNamed B.named
  have hlocks := B.notSynchronized
  have hin : meth.name = "greatest" := (name_of_methodNamed B.named B.method).1
  have hK := hPr.2.2
  have hG := hPr.gw
  have hl := lv_entry ([.ref (bm 0), .int (nI k), .int (nI q)]) (n := 4) (Nat.le_of_ble_eq_true rfl)
  rw [lg_entry_eq]
  generalize (lg_sl ([.ref (bm 0), .int (nI k), .int (nI q)]) ++ List.replicate (4 - (lg_sl ([.ref (bm 0), .int (nI k), .int (nI q)])).length) Slot.unset).toArray = ls at hl ⊢
  have hl : lv_has ls 4 [(0, .ref (bm 0)), (1, .int (nI k)), (2, .int (nI q))] := hl
  refine g_start hPr (fun H locs hG => ?_)
  refine lv_bipush (v := 100) hx hb dX3_greatest_0 (by decide) ?_
  refine lv_istore_n (lv' := [(3, .int 100), (0, .ref (bm 0)), (1, .int (nI k)), (2, .int (nI q))]) hx hb dX3_greatest_2 rfl hl (by decide) rfl (fun ls hl => ?_)
  obtain ⟨w, ew⟩ : ∃ z : Nat, z = 0 := ⟨_, rfl⟩
  replace hl : lv_has ls 4 [(0, .ref (bm 0)), (1, .int (nI k)), (2, .int (nI q)), (3, .int (nI (100 - w)))] := by subst ew; exact (lv_sub hl [1, 2, 3, 0] rfl)
  have inv : w ≤ 100 ∧ grN (fun i => b_S β k (128 * q + i)) 100 = grN (fun i => b_S β k (128 * q + i)) (100 - w) := by
    subst ew
    exact ⟨by omega, rfl⟩
  have hf : 100 < w + 101 := by omega
  clear ew
  generalize 101 = d at hf
  induction d generalizing w H locs ls with
  | zero => exact absurd hf (by have := inv.1; omega)
  | succ d ih =>
    refine lv_iload_n hx hb dX3_greatest_3 rfl (lv_at hl 3 rfl) ?_
    refine lv_if_le (tgt := 26) hx hb dX3_greatest_4 (by decide) (fun c1 => ?_) (fun c1 => ?_)
    · have hw : 100 - w = 0 := by
        rcases Nat.eq_zero_or_pos (100 - w) with z | z
        · exact z
        · exact absurd c1 (nI_ge (a := 0) z (by omega))
      refine lv_iload_n hx hb dX3_greatest_26 rfl (lv_at hl 3 rfl) ?_
      refine W.widen (k := 0) (n := 0) (by omega) (by omega) ?_
      exact W.iret (v := (nI (100 - w))) hx hb hr (fun t9 h9 hW9 => ⟨⟨(nI (100 - w)), (), rfl, (by rw [inv.2, hw]; rfl), hG.at h9⟩, hG.2.2.1.F h9⟩) hG.2.2.1.2.2 dX3_greatest_27
    · have hw : 0 < 100 - w := by
        rcases Nat.eq_zero_or_pos (100 - w) with z | z
        · rw [z] at c1; exact absurd (by decide) c1
        · exact z
      refine lv_aload_n hx hb dX3_greatest_7 rfl (lv_at hl 0 rfl) ?_
      refine r_Model_seen hx hb hts (by decide +kernel) hown hK hG mL0 mK0 mf2 (hts (.fieldLink RX3 7 "DotStoresModel" "seen" "[J") (by decide +kernel)) dX3_greatest_8 ?_
      refine lv_iload_n hx hb dX3_greatest_11 rfl (lv_at hl 1 rfl) ?_
      refine lv_iload_n hx hb dX3_greatest_12 rfl (lv_at hl 2 rfl) ?_
      refine lv_iload_n hx hb dX3_greatest_13 rfl (lv_at hl 3 rfl) ?_
      rw [show 100 - w = (100 - (w + 1)) + 1 by omega]
      refine g_calli (va_runS (As := [.ref (bm 2), .int (nI k), .int (nI q), .int (nI ((100 - (w + 1)) + 1))]) (rest := []) ⟨hx, hb, hml, hown, hts⟩ (k_isSet l G base (k := k) (q := q) (pp := (100 - (w + 1))) mL2 mK2 mn2 hk hq (by omega)) (cwS 4 hts gX3_greatest_X3_isSet rfl rfl rfl (by decide +kernel) ⟨(Nat.le_of_ble_eq_true rfl), (Nat.le_of_ble_eq_true rfl)⟩) (g_ps hK hG) rfl rfl hl.1 rfl (lv_room (Nat.le_of_ble_eq_true rfl)) dX3_greatest_14 ⟨(Nat.le_of_ble_eq_true rfl), (Nat.le_of_ble_eq_true rfl)⟩) hG (fun y1 _ H locs hp hG => ?_)
      have hp : y1 = bi (b_S β k (128 * q + (100 - (w + 1)))) := by
        rw [hp]
        exact congrArg bi (repM_S hM hk hq (by omega))
      subst hp
      refine lv_if_ne (tgt := 26) hx hb dX3_greatest_17 (by decide) (fun c2 => ?_) (fun c2 => ?_)
      · have c2 := ts_nf (fun z => c2 (bi_0.mpr z))
        refine lv_iload_n hx hb dX3_greatest_26 rfl (lv_at hl 3 rfl) ?_
        refine W.widen (k := 0) (n := 0) (by omega) (by omega) ?_
        exact W.iret (v := (nI (100 - w))) hx hb hr (fun t9 h9 hW9 => ⟨⟨(nI (100 - w)), (), rfl, (by rw [inv.2, show 100 - w = (100 - (w + 1)) + 1 by omega, grN_t (P := (fun i => b_S β k (128 * q + i))) c2]), hG.at h9⟩, hG.2.2.1.F h9⟩) hG.2.2.1.2.2 dX3_greatest_27
      · have c2 := bi_0.mp (by first | exact c2 | exact Classical.not_not.mp c2)
        refine lv_iinc (v := (nI (100 - (w + 1)))) (lv' := [(3, .int (nI (100 - (w + 1)))), (0, .ref (bm 0)), (1, .int (nI k)), (2, .int (nI q))]) hx hb dX3_greatest_20 hl (k := 3) rfl ((nI_mn (show 0 < 100 - w by omega)).trans (congrArg nI (by omega))) (by decide) rfl (fun ls hl => ?_)
        refine lv_goto (tgt := 3) hx hb dX3_greatest_23 (by decide) ?_
        exact ih (w := w + 1) (hl := (lv_sub hl [1, 2, 3, 0] rfl)) (hG := hG) (inv := ⟨by omega, by rw [inv.2, show 100 - w = (100 - (w + 1)) + 1 by omega, grN_f (P := (fun i => b_S β k (128 * q + i))) c2]⟩) (hf := by omega)
