set_option maxHeartbeats 4000000 in
set_option maxRecDepth 100000 in
/-- join -/
theorem k_join (l : Launch) (G : gG) (base : Nat) {L : List Nat} {K n : Nat → Nat} {rI : Nat → Nat → Int32} {rJ : Nat → Nat → Int64} {rQ : Nat → Nat → Option Nat} {fI : Nat → Nat → Int32} {fR : Nat → Nat → Option Nat} {bm : Nat → Nat} {β : bT} (hM : RepM (L, K, n, rI, rJ, rQ, fI, fR) bm β) {v j : Int32} : Met l yX3_join wsX3_join ({ frames := 3, cells := 0, slots := 0, locals := 69 }) (va_Pc [.ref (bm 0), .int v, .int j] (g_Pr G base (L, K, n, rI, rJ, rQ, fI, fR))) (g_Qi G base (fun u : ((Nat → Nat → Int32) × (Nat → Nat → Int64) × (Nat → Nat → Int32)) × Nat × Nat × Bool => (L, K, n, u.1.1, u.1.2.1, rQ, u.1.2.2, fR)) (fun x u => (u.1.2.2 (bm 0) 0 = 0 ∧ (u.2.1 < 6 ∧ v = nI u.2.1) ∧ (u.2.2.1 < (b_nd β) ∧ j = nI u.2.2.1) ∧ x = bi u.2.2.2 ∧ (u.2.2.2 = false ↔ bEq (bJoin (bCopy β u.2.1 256) (6 + u.2.2.1) u.2.1) u.2.1 256) ∧ StpM (L, K, n, rI, rJ, rQ, fI, fR) bm (L, K, n, u.1.1, u.1.2.1, rQ, u.1.2.2, fR) (bJoin (bCopy β u.2.1 256) (6 + u.2.2.1) u.2.1)) ∨ (u.1.2.2 (bm 0) 0 = 1 ∧ ¬ (okI v 6 ∧ okI j (b_nd β)) ∧ StpM (L, K, n, rI, rJ, rQ, fI, fR) bm (L, K, n, u.1.1, u.1.2.1, rQ, u.1.2.2, fR) β))) 0 0 (g_A base) := by
  have hMd : isMd L K n fR bm := hM.1
  have hMd0 := hMd
  obtain ⟨minj, mL0, mK0, ⟨mf2, mf3, mf4, mf5, mf6, mf7, mf8, mf9, mf10, mf11, mf13⟩, ⟨mL2, mK2, mn2⟩, ⟨mL3, mK3, mn3⟩, ⟨mL4, mK4, mn4⟩, ⟨mL5, mK5, mn5⟩, ⟨mL6, mK6, mn6⟩, ⟨mL7, mK7, mn7⟩, ⟨mL8, mK8, mn8⟩, ⟨mL9, mK9, mn9⟩, ⟨mL10, mK10, mn10⟩, ⟨mL11, mK11, mn11⟩, ⟨mL13, mK13, mn13⟩⟩ := hMd0
  have hdl : fI (bm 0) 1 = nI (b_nd β) := hM.2.1.1
  have hnd : b_nd β ≤ 250 := hM.2.1.2
  refine Met.ofW (cc := cX3_join) (maxL := 3) (ret := (some .int)) (by decide) rfl ?_
  intro p e s m args below meth c s₁ B hml hv
  obtain ⟨rfl, hPr⟩ := hv
  have hx := B.exec
  have hb := B.bytes
  have hr := B.returns
  have hts := atoms_spec (ws := wsX3_join) B.pre
  have hown : s.vm.findClass RX3 = some m.cls := findClass_of_methodNamed B.named
  have hlocks := B.notSynchronized
  have hin : meth.name = "join" := (name_of_methodNamed B.named B.method).1
  have hK := hPr.2.2
  have hG := hPr.gw
  have hl := lv_entry ([.ref (bm 0), .int v, .int j]) (n := 3) (Nat.le_of_ble_eq_true rfl)
  rw [lg_entry_eq]
  generalize (lg_sl ([.ref (bm 0), .int v, .int j]) ++ List.replicate (3 - (lg_sl ([.ref (bm 0), .int v, .int j])).length) Slot.unset).toArray = ls at hl ⊢
  have hl : lv_has ls 3 [(0, .ref (bm 0)), (1, .int v), (2, .int j)] := hl
  refine g_start hPr (fun H locs hG => ?_)
  refine lv_aload_n hx hb dX3_join_0 rfl (lv_at hl 0 rfl) ?_
  refine lv_aload_n hx hb dX3_join_1 rfl (lv_at hl 0 rfl) ?_
  refine lv_iload_n hx hb dX3_join_2 rfl (lv_at hl 1 rfl) ?_
  refine g_calli (va_runV (As := [.int v]) (rest := [.ref (bm 0)]) ⟨hx, hb, hml, hown, hts⟩ (k_isReplica l G base (v := v) (a := bm 0)) (cwV 1 hts gX3_join_X3_isReplica rfl rfl rfl (by decide +kernel) ⟨(Nat.le_of_ble_eq_true rfl), (Nat.le_of_ble_eq_true rfl)⟩) (g_pv3 hK hG mL0 mK0) rfl rfl hl.1 rfl (lv_room (Nat.le_of_ble_eq_true rfl)) dX3_join_3 ⟨(Nat.le_of_ble_eq_true rfl), (Nat.le_of_ble_eq_true rfl)⟩) hG (fun y1 b1 H locs hp hG => ?_)
  obtain ⟨e9, h1⟩ := hp
  subst e9
  refine lv_if_eq (tgt := 21) hx hb dX3_join_6 (by decide) (fun c1 => ?_) (fun c1 => ?_)
  · have hno : ¬ (okI v 6 ∧ okI j (b_nd β)) := fun z => absurd ((bi_0.mp c1).symm.trans (h1.mpr z.1)) (by decide)
    refine lv_iconst (v := 0) hx hb dX3_join_21 (by decide) ?_
    refine g_calli (va_runV (As := [.int 0]) (rest := []) ⟨hx, hb, hml, hown, hts⟩ (k_goes l G base hM (g := false)) (cwV 1 hts gX3_join_X3_goes rfl rfl rfl (by decide +kernel) ⟨(Nat.le_of_ble_eq_true rfl), (Nat.le_of_ble_eq_true rfl)⟩) (g_pv3 hK hG mL0 mK0) rfl rfl hl.1 rfl (lv_room (Nat.le_of_ble_eq_true rfl)) dX3_join_22 ⟨(Nat.le_of_ble_eq_true rfl), (Nat.le_of_ble_eq_true rfl)⟩) hG (fun y5 _ H locs hp hG => ?_)
    obtain ⟨f1, ef1⟩ : ∃ z, z = g_up fI (bm 0) 0 (bi (!false)) := ⟨_, rfl⟩
    replace hG : gw G base s.heap (L, K, n, rI, rJ, rQ, f1, fR) H locs := by rw [ef1]; exact hG
    have hT1 : StpM (L, K, n, rI, rJ, rQ, fI, fR) bm (L, K, n, rI, rJ, rQ, f1, fR) β := repM_F0 hM (by rw [ef1, g_up_i _ _ _ _ (by decide)]) (fun b hb => by rw [ef1, g_up_other _ _ _ hb])
    have hf1 : f1 (bm 0) 0 = 1 := by rw [ef1, g_up_at]; rfl
    subst hp
    refine lv_if_eq (tgt := 40) hx hb dX3_join_25 (by decide) (fun c8 => ?_) (fun c8 => ?_)
    · refine lv_iconst (v := 0) hx hb dX3_join_40 (by decide) ?_
      refine W.widen (k := 0) (n := 0) (by omega) (by omega) ?_
      exact W.iret (v := 0) hx hb hr (fun t9 h9 hW9 => ⟨⟨0, ((rI, rJ, f1), 0, 0, false), rfl, Or.inr ⟨hf1, hno, hT1⟩, hG.at h9⟩, hG.2.2.1.F h9⟩) hG.2.2.1.2.2 dX3_join_41
    · exact absurd rfl c8
  · obtain ⟨q, hq, rfl⟩ := h1.mp (ts_nf (fun z => c1 (bi_0.mpr z)))
    refine lv_aload_n hx hb dX3_join_9 rfl (lv_at hl 0 rfl) ?_
    refine lv_iload_n hx hb dX3_join_10 rfl (lv_at hl 2 rfl) ?_
    refine g_calli (va_runV (As := [.int j]) (rest := [.ref (bm 0)]) ⟨hx, hb, hml, hown, hts⟩ (k_isDelta l G base hM (v := j)) (cwV 1 hts gX3_join_X3_isDelta rfl rfl rfl (by decide +kernel) ⟨(Nat.le_of_ble_eq_true rfl), (Nat.le_of_ble_eq_true rfl)⟩) (g_pv3 hK hG mL0 mK0) rfl rfl hl.1 rfl (lv_room (Nat.le_of_ble_eq_true rfl)) dX3_join_11 ⟨(Nat.le_of_ble_eq_true rfl), (Nat.le_of_ble_eq_true rfl)⟩) hG (fun y2 b2 H locs hp hG => ?_)
    obtain ⟨e9, h2⟩ := hp
    subst e9
    refine lv_if_eq (tgt := 21) hx hb dX3_join_14 (by decide) (fun c2 => ?_) (fun c2 => ?_)
    · have hno : ¬ (okI (nI q) 6 ∧ okI j (b_nd β)) := fun z => absurd ((bi_0.mp c2).symm.trans (h2.mpr z.2)) (by decide)
      refine lv_iconst (v := 0) hx hb dX3_join_21 (by decide) ?_
      refine g_calli (va_runV (As := [.int 0]) (rest := []) ⟨hx, hb, hml, hown, hts⟩ (k_goes l G base hM (g := false)) (cwV 1 hts gX3_join_X3_goes rfl rfl rfl (by decide +kernel) ⟨(Nat.le_of_ble_eq_true rfl), (Nat.le_of_ble_eq_true rfl)⟩) (g_pv3 hK hG mL0 mK0) rfl rfl hl.1 rfl (lv_room (Nat.le_of_ble_eq_true rfl)) dX3_join_22 ⟨(Nat.le_of_ble_eq_true rfl), (Nat.le_of_ble_eq_true rfl)⟩) hG (fun y5 _ H locs hp hG => ?_)
      obtain ⟨f1, ef1⟩ : ∃ z, z = g_up fI (bm 0) 0 (bi (!false)) := ⟨_, rfl⟩
      replace hG : gw G base s.heap (L, K, n, rI, rJ, rQ, f1, fR) H locs := by rw [ef1]; exact hG
      have hT1 : StpM (L, K, n, rI, rJ, rQ, fI, fR) bm (L, K, n, rI, rJ, rQ, f1, fR) β := repM_F0 hM (by rw [ef1, g_up_i _ _ _ _ (by decide)]) (fun b hb => by rw [ef1, g_up_other _ _ _ hb])
      have hf1 : f1 (bm 0) 0 = 1 := by rw [ef1, g_up_at]; rfl
      subst hp
      refine lv_if_eq (tgt := 40) hx hb dX3_join_25 (by decide) (fun c8 => ?_) (fun c8 => ?_)
      · refine lv_iconst (v := 0) hx hb dX3_join_40 (by decide) ?_
        refine W.widen (k := 0) (n := 0) (by omega) (by omega) ?_
        exact W.iret (v := 0) hx hb hr (fun t9 h9 hW9 => ⟨⟨0, ((rI, rJ, f1), 0, 0, false), rfl, Or.inr ⟨hf1, hno, hT1⟩, hG.at h9⟩, hG.2.2.1.F h9⟩) hG.2.2.1.2.2 dX3_join_41
      · exact absurd rfl c8
    · obtain ⟨dd, hdd, rfl⟩ := h2.mp (ts_nf (fun z => c2 (bi_0.mpr z)))
      refine lv_iconst (v := 1) hx hb dX3_join_17 (by decide) ?_
      refine lv_goto (tgt := 22) hx hb dX3_join_18 (by decide) ?_
      refine g_calli (va_runV (As := [.int 1]) (rest := []) ⟨hx, hb, hml, hown, hts⟩ (k_goes l G base hM (g := true)) (cwV 1 hts gX3_join_X3_goes rfl rfl rfl (by decide +kernel) ⟨(Nat.le_of_ble_eq_true rfl), (Nat.le_of_ble_eq_true rfl)⟩) (g_pv3 hK hG mL0 mK0) rfl rfl hl.1 rfl (lv_room (Nat.le_of_ble_eq_true rfl)) dX3_join_22 ⟨(Nat.le_of_ble_eq_true rfl), (Nat.le_of_ble_eq_true rfl)⟩) hG (fun y5 _ H locs hp hG => ?_)
      obtain ⟨f1, ef1⟩ : ∃ z, z = g_up fI (bm 0) 0 (bi (!true)) := ⟨_, rfl⟩
      replace hG : gw G base s.heap (L, K, n, rI, rJ, rQ, f1, fR) H locs := by rw [ef1]; exact hG
      have hT1 : StpM (L, K, n, rI, rJ, rQ, fI, fR) bm (L, K, n, rI, rJ, rQ, f1, fR) β := repM_F0 hM (by rw [ef1, g_up_i _ _ _ _ (by decide)]) (fun b hb => by rw [ef1, g_up_other _ _ _ hb])
      have hf1 : f1 (bm 0) 0 = 0 := by rw [ef1, g_up_at]; rfl
      subst hp
      refine lv_if_eq (tgt := 40) hx hb dX3_join_25 (by decide) (fun c8 => ?_) (fun c8 => ?_)
      · exact absurd c8 (by decide)
      · refine lv_aload_n hx hb dX3_join_28 rfl (lv_at hl 0 rfl) ?_
        refine lv_bipush (v := 6) hx hb dX3_join_29 (by decide) ?_
        refine lv_iload_n hx hb dX3_join_31 rfl (lv_at hl 2 rfl) ?_
        refine lv_iadd hx hb dX3_join_32 ?_
        refine lv_topi (fun z1 ez1 => ?_)
        obtain rfl : z1 = nI (6 + dd) := ez1.trans (nI_add 6 dd)
        refine lv_iload_n hx hb dX3_join_33 rfl (lv_at hl 1 rfl) ?_
        refine g_calli (va_runV (As := [.int (nI (6 + dd)), .int (nI q)]) (rest := []) ⟨hx, hb, hml, hown, hts⟩ (k_joined l G base hT1.1 (o := 6 + dd) (k := q) (by omega) (by omega)) (cwV 2 hts gX3_join_X3_joined rfl rfl rfl (by decide +kernel) ⟨(Nat.le_of_ble_eq_true rfl), (Nat.le_of_ble_eq_true rfl)⟩) (g_pv3 hK hG mL0 mK0) rfl rfl hl.1 rfl (lv_room (Nat.le_of_ble_eq_true rfl)) dX3_join_34 ⟨(Nat.le_of_ble_eq_true rfl), (Nat.le_of_ble_eq_true rfl)⟩) hG (fun y6 u H locs hp hG => ?_)
        obtain ⟨⟨i2, j2⟩, cg⟩ := u
        obtain ⟨e6, h6, hF⟩ := hp
        replace hG : gw G base s.heap (L, K, n, i2, j2, rQ, f1, fR) H locs := hG
        replace e6 : y6 = bi cg := e6
        subst e6
        replace hF := hT1.tr hF
        refine lv_goto (tgt := 41) hx hb dX3_join_37 (by decide) ?_
        refine W.widen (k := 0) (n := 0) (by omega) (by omega) ?_
        exact W.iret (v := (bi cg)) hx hb hr (fun t9 h9 hW9 => ⟨⟨(bi cg), ((i2, j2, f1), q, dd, cg), rfl, Or.inl ⟨hf1, ⟨hq, rfl⟩, ⟨hdd, rfl⟩, rfl, h6, hF⟩, hG.at h9⟩, hG.2.2.1.F h9⟩) hG.2.2.1.2.2 dX3_join_41
set_option maxHeartbeats 4000000 in
set_option maxRecDepth 100000 in
/-- merge -/
theorem k_merge (l : Launch) (G : gG) (base : Nat) {L : List Nat} {K n : Nat → Nat} {rI : Nat → Nat → Int32} {rJ : Nat → Nat → Int64} {rQ : Nat → Nat → Option Nat} {fI : Nat → Nat → Int32} {fR : Nat → Nat → Option Nat} {bm : Nat → Nat} {β : bT} (hM : RepM (L, K, n, rI, rJ, rQ, fI, fR) bm β) {v j : Int32} : Met l yX3_merge wsX3_merge ({ frames := 3, cells := 0, slots := 0, locals := 69 }) (va_Pc [.ref (bm 0), .int v, .int j] (g_Pr G base (L, K, n, rI, rJ, rQ, fI, fR))) (g_Qi G base (fun u : ((Nat → Nat → Int32) × (Nat → Nat → Int64) × (Nat → Nat → Int32)) × Nat × Nat × Bool => (L, K, n, u.1.1, u.1.2.1, rQ, u.1.2.2, fR)) (fun x u => (u.1.2.2 (bm 0) 0 = 0 ∧ (u.2.1 < 6 ∧ v = nI u.2.1) ∧ (u.2.2.1 < 6 ∧ j = nI u.2.2.1) ∧ x = bi u.2.2.2 ∧ (u.2.2.2 = false ↔ bEq (bJoin (bCopy β u.2.1 256) (u.2.2.1) u.2.1) u.2.1 256) ∧ StpM (L, K, n, rI, rJ, rQ, fI, fR) bm (L, K, n, u.1.1, u.1.2.1, rQ, u.1.2.2, fR) (bJoin (bCopy β u.2.1 256) (u.2.2.1) u.2.1)) ∨ (u.1.2.2 (bm 0) 0 = 1 ∧ ¬ (okI v 6 ∧ okI j 6) ∧ StpM (L, K, n, rI, rJ, rQ, fI, fR) bm (L, K, n, u.1.1, u.1.2.1, rQ, u.1.2.2, fR) β))) 0 0 (g_A base) := by
  have hMd : isMd L K n fR bm := hM.1
  have hMd0 := hMd
  obtain ⟨minj, mL0, mK0, ⟨mf2, mf3, mf4, mf5, mf6, mf7, mf8, mf9, mf10, mf11, mf13⟩, ⟨mL2, mK2, mn2⟩, ⟨mL3, mK3, mn3⟩, ⟨mL4, mK4, mn4⟩, ⟨mL5, mK5, mn5⟩, ⟨mL6, mK6, mn6⟩, ⟨mL7, mK7, mn7⟩, ⟨mL8, mK8, mn8⟩, ⟨mL9, mK9, mn9⟩, ⟨mL10, mK10, mn10⟩, ⟨mL11, mK11, mn11⟩, ⟨mL13, mK13, mn13⟩⟩ := hMd0
  have hdl : fI (bm 0) 1 = nI (b_nd β) := hM.2.1.1
  have hnd : b_nd β ≤ 250 := hM.2.1.2
  refine Met.ofW (cc := cX3_merge) (maxL := 3) (ret := (some .int)) (by decide) rfl ?_
  intro p e s m args below meth c s₁ B hml hv
  obtain ⟨rfl, hPr⟩ := hv
  have hx := B.exec
  have hb := B.bytes
  have hr := B.returns
  have hts := atoms_spec (ws := wsX3_merge) B.pre
  have hown : s.vm.findClass RX3 = some m.cls := findClass_of_methodNamed B.named
  have hlocks := B.notSynchronized
  have hin : meth.name = "merge" := (name_of_methodNamed B.named B.method).1
  have hK := hPr.2.2
  have hG := hPr.gw
  have hl := lv_entry ([.ref (bm 0), .int v, .int j]) (n := 3) (Nat.le_of_ble_eq_true rfl)
  rw [lg_entry_eq]
  generalize (lg_sl ([.ref (bm 0), .int v, .int j]) ++ List.replicate (3 - (lg_sl ([.ref (bm 0), .int v, .int j])).length) Slot.unset).toArray = ls at hl ⊢
  have hl : lv_has ls 3 [(0, .ref (bm 0)), (1, .int v), (2, .int j)] := hl
  refine g_start hPr (fun H locs hG => ?_)
  refine lv_aload_n hx hb dX3_merge_0 rfl (lv_at hl 0 rfl) ?_
  refine lv_aload_n hx hb dX3_merge_1 rfl (lv_at hl 0 rfl) ?_
  refine lv_iload_n hx hb dX3_merge_2 rfl (lv_at hl 1 rfl) ?_
  refine g_calli (va_runV (As := [.int v]) (rest := [.ref (bm 0)]) ⟨hx, hb, hml, hown, hts⟩ (k_isReplica l G base (v := v) (a := bm 0)) (cwV 1 hts gX3_merge_X3_isReplica rfl rfl rfl (by decide +kernel) ⟨(Nat.le_of_ble_eq_true rfl), (Nat.le_of_ble_eq_true rfl)⟩) (g_pv3 hK hG mL0 mK0) rfl rfl hl.1 rfl (lv_room (Nat.le_of_ble_eq_true rfl)) dX3_merge_3 ⟨(Nat.le_of_ble_eq_true rfl), (Nat.le_of_ble_eq_true rfl)⟩) hG (fun y1 b1 H locs hp hG => ?_)
  obtain ⟨e9, h1⟩ := hp
  subst e9
  refine lv_if_eq (tgt := 21) hx hb dX3_merge_6 (by decide) (fun c1 => ?_) (fun c1 => ?_)
  · have hno : ¬ (okI v 6 ∧ okI j 6) := fun z => absurd ((bi_0.mp c1).symm.trans (h1.mpr z.1)) (by decide)
    refine lv_iconst (v := 0) hx hb dX3_merge_21 (by decide) ?_
    refine g_calli (va_runV (As := [.int 0]) (rest := []) ⟨hx, hb, hml, hown, hts⟩ (k_goes l G base hM (g := false)) (cwV 1 hts gX3_merge_X3_goes rfl rfl rfl (by decide +kernel) ⟨(Nat.le_of_ble_eq_true rfl), (Nat.le_of_ble_eq_true rfl)⟩) (g_pv3 hK hG mL0 mK0) rfl rfl hl.1 rfl (lv_room (Nat.le_of_ble_eq_true rfl)) dX3_merge_22 ⟨(Nat.le_of_ble_eq_true rfl), (Nat.le_of_ble_eq_true rfl)⟩) hG (fun y5 _ H locs hp hG => ?_)
    obtain ⟨f1, ef1⟩ : ∃ z, z = g_up fI (bm 0) 0 (bi (!false)) := ⟨_, rfl⟩
    replace hG : gw G base s.heap (L, K, n, rI, rJ, rQ, f1, fR) H locs := by rw [ef1]; exact hG
    have hT1 : StpM (L, K, n, rI, rJ, rQ, fI, fR) bm (L, K, n, rI, rJ, rQ, f1, fR) β := repM_F0 hM (by rw [ef1, g_up_i _ _ _ _ (by decide)]) (fun b hb => by rw [ef1, g_up_other _ _ _ hb])
    have hf1 : f1 (bm 0) 0 = 1 := by rw [ef1, g_up_at]; rfl
    subst hp
    refine lv_if_eq (tgt := 37) hx hb dX3_merge_25 (by decide) (fun c8 => ?_) (fun c8 => ?_)
    · refine lv_iconst (v := 0) hx hb dX3_merge_37 (by decide) ?_
      refine W.widen (k := 0) (n := 0) (by omega) (by omega) ?_
      exact W.iret (v := 0) hx hb hr (fun t9 h9 hW9 => ⟨⟨0, ((rI, rJ, f1), 0, 0, false), rfl, Or.inr ⟨hf1, hno, hT1⟩, hG.at h9⟩, hG.2.2.1.F h9⟩) hG.2.2.1.2.2 dX3_merge_38
    · exact absurd rfl c8
  · obtain ⟨q, hq, rfl⟩ := h1.mp (ts_nf (fun z => c1 (bi_0.mpr z)))
    refine lv_aload_n hx hb dX3_merge_9 rfl (lv_at hl 0 rfl) ?_
    refine lv_iload_n hx hb dX3_merge_10 rfl (lv_at hl 2 rfl) ?_
    refine g_calli (va_runV (As := [.int j]) (rest := [.ref (bm 0)]) ⟨hx, hb, hml, hown, hts⟩ (k_isReplica l G base (v := j) (a := bm 0)) (cwV 1 hts gX3_merge_X3_isReplica rfl rfl rfl (by decide +kernel) ⟨(Nat.le_of_ble_eq_true rfl), (Nat.le_of_ble_eq_true rfl)⟩) (g_pv3 hK hG mL0 mK0) rfl rfl hl.1 rfl (lv_room (Nat.le_of_ble_eq_true rfl)) dX3_merge_11 ⟨(Nat.le_of_ble_eq_true rfl), (Nat.le_of_ble_eq_true rfl)⟩) hG (fun y2 b2 H locs hp hG => ?_)
    obtain ⟨e9, h2⟩ := hp
    subst e9
    refine lv_if_eq (tgt := 21) hx hb dX3_merge_14 (by decide) (fun c2 => ?_) (fun c2 => ?_)
    · have hno : ¬ (okI (nI q) 6 ∧ okI j 6) := fun z => absurd ((bi_0.mp c2).symm.trans (h2.mpr z.2)) (by decide)
      refine lv_iconst (v := 0) hx hb dX3_merge_21 (by decide) ?_
      refine g_calli (va_runV (As := [.int 0]) (rest := []) ⟨hx, hb, hml, hown, hts⟩ (k_goes l G base hM (g := false)) (cwV 1 hts gX3_merge_X3_goes rfl rfl rfl (by decide +kernel) ⟨(Nat.le_of_ble_eq_true rfl), (Nat.le_of_ble_eq_true rfl)⟩) (g_pv3 hK hG mL0 mK0) rfl rfl hl.1 rfl (lv_room (Nat.le_of_ble_eq_true rfl)) dX3_merge_22 ⟨(Nat.le_of_ble_eq_true rfl), (Nat.le_of_ble_eq_true rfl)⟩) hG (fun y5 _ H locs hp hG => ?_)
      obtain ⟨f1, ef1⟩ : ∃ z, z = g_up fI (bm 0) 0 (bi (!false)) := ⟨_, rfl⟩
      replace hG : gw G base s.heap (L, K, n, rI, rJ, rQ, f1, fR) H locs := by rw [ef1]; exact hG
      have hT1 : StpM (L, K, n, rI, rJ, rQ, fI, fR) bm (L, K, n, rI, rJ, rQ, f1, fR) β := repM_F0 hM (by rw [ef1, g_up_i _ _ _ _ (by decide)]) (fun b hb => by rw [ef1, g_up_other _ _ _ hb])
      have hf1 : f1 (bm 0) 0 = 1 := by rw [ef1, g_up_at]; rfl
      subst hp
      refine lv_if_eq (tgt := 37) hx hb dX3_merge_25 (by decide) (fun c8 => ?_) (fun c8 => ?_)
      · refine lv_iconst (v := 0) hx hb dX3_merge_37 (by decide) ?_
        refine W.widen (k := 0) (n := 0) (by omega) (by omega) ?_
        exact W.iret (v := 0) hx hb hr (fun t9 h9 hW9 => ⟨⟨0, ((rI, rJ, f1), 0, 0, false), rfl, Or.inr ⟨hf1, hno, hT1⟩, hG.at h9⟩, hG.2.2.1.F h9⟩) hG.2.2.1.2.2 dX3_merge_38
      · exact absurd rfl c8
    · obtain ⟨dd, hdd, rfl⟩ := h2.mp (ts_nf (fun z => c2 (bi_0.mpr z)))
      refine lv_iconst (v := 1) hx hb dX3_merge_17 (by decide) ?_
      refine lv_goto (tgt := 22) hx hb dX3_merge_18 (by decide) ?_
      refine g_calli (va_runV (As := [.int 1]) (rest := []) ⟨hx, hb, hml, hown, hts⟩ (k_goes l G base hM (g := true)) (cwV 1 hts gX3_merge_X3_goes rfl rfl rfl (by decide +kernel) ⟨(Nat.le_of_ble_eq_true rfl), (Nat.le_of_ble_eq_true rfl)⟩) (g_pv3 hK hG mL0 mK0) rfl rfl hl.1 rfl (lv_room (Nat.le_of_ble_eq_true rfl)) dX3_merge_22 ⟨(Nat.le_of_ble_eq_true rfl), (Nat.le_of_ble_eq_true rfl)⟩) hG (fun y5 _ H locs hp hG => ?_)
      obtain ⟨f1, ef1⟩ : ∃ z, z = g_up fI (bm 0) 0 (bi (!true)) := ⟨_, rfl⟩
      replace hG : gw G base s.heap (L, K, n, rI, rJ, rQ, f1, fR) H locs := by rw [ef1]; exact hG
      have hT1 : StpM (L, K, n, rI, rJ, rQ, fI, fR) bm (L, K, n, rI, rJ, rQ, f1, fR) β := repM_F0 hM (by rw [ef1, g_up_i _ _ _ _ (by decide)]) (fun b hb => by rw [ef1, g_up_other _ _ _ hb])
      have hf1 : f1 (bm 0) 0 = 0 := by rw [ef1, g_up_at]; rfl
      subst hp
      refine lv_if_eq (tgt := 37) hx hb dX3_merge_25 (by decide) (fun c8 => ?_) (fun c8 => ?_)
      · exact absurd c8 (by decide)
      · refine lv_aload_n hx hb dX3_merge_28 rfl (lv_at hl 0 rfl) ?_
        refine lv_iload_n hx hb dX3_merge_29 rfl (lv_at hl 2 rfl) ?_
        refine lv_iload_n hx hb dX3_merge_30 rfl (lv_at hl 1 rfl) ?_
        refine g_calli (va_runV (As := [.int (nI dd), .int (nI q)]) (rest := []) ⟨hx, hb, hml, hown, hts⟩ (k_joined l G base hT1.1 (o := dd) (k := q) (by omega) (by omega)) (cwV 2 hts gX3_merge_X3_joined rfl rfl rfl (by decide +kernel) ⟨(Nat.le_of_ble_eq_true rfl), (Nat.le_of_ble_eq_true rfl)⟩) (g_pv3 hK hG mL0 mK0) rfl rfl hl.1 rfl (lv_room (Nat.le_of_ble_eq_true rfl)) dX3_merge_31 ⟨(Nat.le_of_ble_eq_true rfl), (Nat.le_of_ble_eq_true rfl)⟩) hG (fun y6 u H locs hp hG => ?_)
        obtain ⟨⟨i2, j2⟩, cg⟩ := u
        obtain ⟨e6, h6, hF⟩ := hp
        replace hG : gw G base s.heap (L, K, n, i2, j2, rQ, f1, fR) H locs := hG
        replace e6 : y6 = bi cg := e6
        subst e6
        replace hF := hT1.tr hF
        refine lv_goto (tgt := 38) hx hb dX3_merge_34 (by decide) ?_
        refine W.widen (k := 0) (n := 0) (by omega) (by omega) ?_
        exact W.iret (v := (bi cg)) hx hb hr (fun t9 h9 hW9 => ⟨⟨(bi cg), ((i2, j2, f1), q, dd, cg), rfl, Or.inl ⟨hf1, ⟨hq, rfl⟩, ⟨hdd, rfl⟩, rfl, h6, hF⟩, hG.at h9⟩, hG.2.2.1.F h9⟩) hG.2.2.1.2.2 dX3_merge_38
def bGroup (β : bT) (d e : Nat) : bT := bND (bJoin (bJoin (bEmp β (6 + b_nd β)) (6 + d) (6 + b_nd β)) (6 + e) (6 + b_nd β)) (b_nd β + 1)
def bWhole (β : bT) (r : Nat) : bT := bND (bCopy β r (6 + b_nd β)) (b_nd β + 1)
theorem nI_250 {m : Nat} (hm : m ≤ 250) : nI m = 250 ↔ ¬ m < 250 := by
  rw [show (250 : Int32) = nI 250 from rfl, nI_eq (by omega) (by decide)]
  omega
set_option maxHeartbeats 4000000 in
set_option maxRecDepth 100000 in
/-- group -/
theorem k_group (l : Launch) (G : gG) (base : Nat) {L : List Nat} {K n : Nat → Nat} {rI : Nat → Nat → Int32} {rJ : Nat → Nat → Int64} {rQ : Nat → Nat → Option Nat} {fI : Nat → Nat → Int32} {fR : Nat → Nat → Option Nat} {bm : Nat → Nat} {β : bT} (hM : RepM (L, K, n, rI, rJ, rQ, fI, fR) bm β) {v j : Int32} : Met l yX3_group wsX3_group ({ frames := 2, cells := 0, slots := 0, locals := 47 }) (va_Pc [.ref (bm 0), .int v, .int j] (g_Pr G base (L, K, n, rI, rJ, rQ, fI, fR))) (g_Qi G base (fun u : ((Nat → Nat → Int32) × (Nat → Nat → Int64) × (Nat → Nat → Int32)) × Nat × Nat × Nat => (L, K, n, u.1.1, u.1.2.1, rQ, u.1.2.2, fR)) (fun x u => (u.1.2.2 (bm 0) 0 = 0 ∧ (u.2.1 < b_nd β ∧ v = nI u.2.1) ∧ (u.2.2.1 < b_nd β ∧ j = nI u.2.2.1) ∧ b_nd β < 250 ∧ x = nI (b_nd β) ∧ StpM (L, K, n, rI, rJ, rQ, fI, fR) bm (L, K, n, u.1.1, u.1.2.1, rQ, u.1.2.2, fR) (bGroup β u.2.1 u.2.2.1)) ∨ (u.1.2.2 (bm 0) 0 = nI u.2.1 ∧ ((u.2.1 = 1 ∧ ¬ (okI v (b_nd β) ∧ okI j (b_nd β))) ∨ (u.2.1 = 2 ∧ (okI v (b_nd β) ∧ okI j (b_nd β)) ∧ ¬ b_nd β < 250)) ∧ StpM (L, K, n, rI, rJ, rQ, fI, fR) bm (L, K, n, u.1.1, u.1.2.1, rQ, u.1.2.2, fR) β))) 0 0 (g_A base) := by
  have hMd : isMd L K n fR bm := hM.1
  have hMd0 := hMd
  obtain ⟨minj, mL0, mK0, ⟨mf2, mf3, mf4, mf5, mf6, mf7, mf8, mf9, mf10, mf11, mf13⟩, ⟨mL2, mK2, mn2⟩, ⟨mL3, mK3, mn3⟩, ⟨mL4, mK4, mn4⟩, ⟨mL5, mK5, mn5⟩, ⟨mL6, mK6, mn6⟩, ⟨mL7, mK7, mn7⟩, ⟨mL8, mK8, mn8⟩, ⟨mL9, mK9, mn9⟩, ⟨mL10, mK10, mn10⟩, ⟨mL11, mK11, mn11⟩, ⟨mL13, mK13, mn13⟩⟩ := hMd0
  have hdl : fI (bm 0) 1 = nI (b_nd β) := hM.2.1.1
  have hnd : b_nd β ≤ 250 := hM.2.1.2
  refine Met.ofW (cc := cX3_group) (maxL := 4) (ret := (some .int)) (by decide) rfl ?_
  intro p e s m args below meth c s₁ B hml hv
  obtain ⟨rfl, hPr⟩ := hv
  have hx := B.exec
  have hb := B.bytes
  have hr := B.returns
  have hts := atoms_spec (ws := wsX3_group) B.pre
  have hown : s.vm.findClass RX3 = some m.cls := findClass_of_methodNamed B.named
  have hlocks := B.notSynchronized
  have hin : meth.name = "group" := (name_of_methodNamed B.named B.method).1
  have hK := hPr.2.2
  have hG := hPr.gw
  have hl := lv_entry ([.ref (bm 0), .int v, .int j]) (n := 4) (Nat.le_of_ble_eq_true rfl)
  rw [lg_entry_eq]
  generalize (lg_sl ([.ref (bm 0), .int v, .int j]) ++ List.replicate (4 - (lg_sl ([.ref (bm 0), .int v, .int j])).length) Slot.unset).toArray = ls at hl ⊢
  have hl : lv_has ls 4 [(0, .ref (bm 0)), (1, .int v), (2, .int j)] := hl
  refine g_start hPr (fun H locs hG => ?_)
  refine lv_aload_n hx hb dX3_group_0 rfl (lv_at hl 0 rfl) ?_
  refine lv_aload_n hx hb dX3_group_1 rfl (lv_at hl 0 rfl) ?_
  refine lv_iload_n hx hb dX3_group_2 rfl (lv_at hl 1 rfl) ?_
  refine g_calli (va_runV (As := [.int v]) (rest := [.ref (bm 0)]) ⟨hx, hb, hml, hown, hts⟩ (k_isDelta l G base hM (v := v)) (cwV 1 hts gX3_group_X3_isDelta rfl rfl rfl (by decide +kernel) ⟨(Nat.le_of_ble_eq_true rfl), (Nat.le_of_ble_eq_true rfl)⟩) (g_pv3 hK hG mL0 mK0) rfl rfl hl.1 rfl (lv_room (Nat.le_of_ble_eq_true rfl)) dX3_group_3 ⟨(Nat.le_of_ble_eq_true rfl), (Nat.le_of_ble_eq_true rfl)⟩) hG (fun y1 b1 H locs hp hG => ?_)
  obtain ⟨e9, h1⟩ := hp
  subst e9
  refine lv_if_eq (tgt := 17) hx hb dX3_group_6 (by decide) (fun c1 => ?_) (fun c1 => ?_)
  · have hno : ¬ (okI v (b_nd β) ∧ okI j (b_nd β)) := fun z => absurd ((bi_0.mp c1).symm.trans (h1.mpr z.1)) (by decide)
    refine lv_iconst (v := 1) hx hb dX3_group_17 (by decide) ?_
    refine lv_goto (tgt := 36) hx hb dX3_group_18 (by decide) ?_
    refine w_Model_thrown hx hb hts (by decide +kernel) hown hK hG mL0 mK0 (hts (.fieldLink RX3 45 "DotStoresModel" "thrown" "I") (by decide +kernel)) dX3_group_36 (fun H locs hG => ?_)
    obtain ⟨f1, ef1⟩ : ∃ z, z = g_up fI (bm 0) 0 1 := ⟨_, rfl⟩
    replace hG : gw G base s.heap (L, K, n, rI, rJ, rQ, f1, fR) H locs := by rw [ef1]; exact hG
    have hT1 : StpM (L, K, n, rI, rJ, rQ, fI, fR) bm (L, K, n, rI, rJ, rQ, f1, fR) β := repM_F0 hM (by rw [ef1, g_up_i _ _ _ _ (by decide)]) (fun b hb => by rw [ef1, g_up_other _ _ _ hb])
    have hf1 : f1 (bm 0) 0 = 1 := by rw [ef1, g_up_at]
    refine lv_aload_n hx hb dX3_group_39 rfl (lv_at hl 0 rfl) ?_
    refine r_Model_thrown hx hb hts (by decide +kernel) hown hK hG mL0 mK0 (hts (.fieldLink RX3 45 "DotStoresModel" "thrown" "I") (by decide +kernel)) dX3_group_40 ?_
    refine lv_topi (fun z1 ez1 => ?_)
    obtain rfl : z1 = 1 := ez1.trans (hf1)
    refine lv_if_le (tgt := 48) hx hb dX3_group_43 (by decide) (fun c9 => ?_) (fun c9 => ?_)
    · exact absurd c9 (by decide)
    · refine lv_iconst (v := 0) hx hb dX3_group_46 (by decide) ?_
      refine W.widen (k := 0) (n := 0) (by omega) (by omega) ?_
      exact W.iret (v := 0) hx hb hr (fun t9 h9 hW9 => ⟨⟨0, ((rI, rJ, f1), 1, 0, 0), rfl, Or.inr ⟨hf1, Or.inl ⟨rfl, hno⟩, hT1⟩, hG.at h9⟩, hG.2.2.1.F h9⟩) hG.2.2.1.2.2 dX3_group_47
  · obtain ⟨q, hq, rfl⟩ := h1.mp (ts_nf (fun z => c1 (bi_0.mpr z)))
    refine lv_aload_n hx hb dX3_group_9 rfl (lv_at hl 0 rfl) ?_
    refine lv_iload_n hx hb dX3_group_10 rfl (lv_at hl 2 rfl) ?_
    refine g_calli (va_runV (As := [.int j]) (rest := [.ref (bm 0)]) ⟨hx, hb, hml, hown, hts⟩ (k_isDelta l G base hM (v := j)) (cwV 1 hts gX3_group_X3_isDelta rfl rfl rfl (by decide +kernel) ⟨(Nat.le_of_ble_eq_true rfl), (Nat.le_of_ble_eq_true rfl)⟩) (g_pv3 hK hG mL0 mK0) rfl rfl hl.1 rfl (lv_room (Nat.le_of_ble_eq_true rfl)) dX3_group_11 ⟨(Nat.le_of_ble_eq_true rfl), (Nat.le_of_ble_eq_true rfl)⟩) hG (fun y2 b2 H locs hp hG => ?_)
    obtain ⟨e9, h2⟩ := hp
    subst e9
    refine lv_if_ne (tgt := 21) hx hb dX3_group_14 (by decide) (fun c2 => ?_) (fun c2 => ?_)
    · obtain ⟨dd, hdd, rfl⟩ := h2.mp (ts_nf (fun z => c2 (bi_0.mpr z)))
      refine lv_aload_n hx hb dX3_group_21 rfl (lv_at hl 0 rfl) ?_
      refine r_Model_deltas hx hb hts (by decide +kernel) hown hK hG mL0 mK0 (hts (.fieldLink RX3 72 "DotStoresModel" "deltas" "I") (by decide +kernel)) dX3_group_22 ?_
      refine lv_topi (fun z2 ez2 => ?_)
      obtain rfl : z2 = nI (b_nd β) := ez2.trans (hdl)
      refine lv_sipush (v := 250) hx hb dX3_group_25 (by decide) ?_
      refine lv_icmp_ne (tgt := 35) hx hb dX3_group_28 (by decide) (fun c5 => ?_) (fun c5 => ?_)
      · have hlt : b_nd β < 250 := Classical.not_not.mp (fun z => c5 ((nI_250 hnd).mpr z))
        refine lv_iconst (v := 0) hx hb dX3_group_35 (by decide) ?_
        refine w_Model_thrown hx hb hts (by decide +kernel) hown hK hG mL0 mK0 (hts (.fieldLink RX3 45 "DotStoresModel" "thrown" "I") (by decide +kernel)) dX3_group_36 (fun H locs hG => ?_)
        obtain ⟨f1, ef1⟩ : ∃ z, z = g_up fI (bm 0) 0 0 := ⟨_, rfl⟩
        replace hG : gw G base s.heap (L, K, n, rI, rJ, rQ, f1, fR) H locs := by rw [ef1]; exact hG
        have hT1 : StpM (L, K, n, rI, rJ, rQ, fI, fR) bm (L, K, n, rI, rJ, rQ, f1, fR) β := repM_F0 hM (by rw [ef1, g_up_i _ _ _ _ (by decide)]) (fun b hb => by rw [ef1, g_up_other _ _ _ hb])
        have hf1 : f1 (bm 0) 0 = 0 := by rw [ef1, g_up_at]
        refine lv_aload_n hx hb dX3_group_39 rfl (lv_at hl 0 rfl) ?_
        refine r_Model_thrown hx hb hts (by decide +kernel) hown hK hG mL0 mK0 (hts (.fieldLink RX3 45 "DotStoresModel" "thrown" "I") (by decide +kernel)) dX3_group_40 ?_
        refine lv_topi (fun z3 ez3 => ?_)
        obtain rfl : z3 = 0 := ez3.trans (hf1)
        refine lv_if_le (tgt := 48) hx hb dX3_group_43 (by decide) (fun c9 => ?_) (fun c9 => ?_)
        · refine lv_aload_n hx hb dX3_group_48 rfl (lv_at hl 0 rfl) ?_
          refine g_calli (va_runV (As := []) (rest := []) ⟨hx, hb, hml, hown, hts⟩ (k_fresh l G base hT1.1 hlt) (cwV 0 hts gX3_group_X3_fresh rfl rfl rfl (by decide +kernel) ⟨(Nat.le_of_ble_eq_true rfl), (Nat.le_of_ble_eq_true rfl)⟩) (g_pv3 hK hG mL0 mK0) rfl rfl hl.1 rfl (lv_room (Nat.le_of_ble_eq_true rfl)) dX3_group_49 ⟨(Nat.le_of_ble_eq_true rfl), (Nat.le_of_ble_eq_true rfl)⟩) hG (fun y7 u H locs hp hG => ?_)
          obtain ⟨i1, j1⟩ := u
          obtain ⟨e7, hF1⟩ := hp
          replace hG : gw G base s.heap (L, K, n, i1, j1, rQ, f1, fR) H locs := hG
          replace e7 : y7 = nI (6 + b_nd β) := e7
          subst e7
          replace hF1 : StpM (L, K, n, rI, rJ, rQ, fI, fR) bm (L, K, n, i1, j1, rQ, f1, fR) (bEmp β (6 + b_nd β)) := hT1.tr hF1
          refine lv_istore_n (lv' := [(3, .int (nI (6 + b_nd β))), (0, .ref (bm 0)), (1, .int (nI q)), (2, .int (nI dd))]) hx hb dX3_group_52 rfl hl (by decide) rfl (fun ls hl => ?_)
          refine lv_aload_n hx hb dX3_group_53 rfl (lv_at hl 1 rfl) ?_
          refine lv_bipush (v := 6) hx hb dX3_group_54 (by decide) ?_
          refine lv_iload_n hx hb dX3_group_56 rfl (lv_at hl 2 rfl) ?_
          refine lv_iadd hx hb dX3_group_57 ?_
          refine lv_topi (fun z4 ez4 => ?_)
          obtain rfl : z4 = nI (6 + q) := ez4.trans (nI_add 6 q)
          refine lv_iload_n hx hb dX3_group_58 rfl (lv_at hl 0 rfl) ?_
          refine g_callv (va_runV (As := [.int (nI (6 + q)), .int (nI (6 + b_nd β))]) (rest := []) ⟨hx, hb, hml, hown, hts⟩ (k_joinTo l G base hF1.1 (o := 6 + q) (k := 6 + b_nd β) (by omega) (by omega)) (cwV 2 hts gX3_group_X3_joinTo rfl rfl rfl (by decide +kernel) ⟨(Nat.le_of_ble_eq_true rfl), (Nat.le_of_ble_eq_true rfl)⟩) (g_pv3 hK hG mL0 mK0) rfl rfl hl.1 rfl (lv_room (Nat.le_of_ble_eq_true rfl)) dX3_group_59 ⟨(Nat.le_of_ble_eq_true rfl), (Nat.le_of_ble_eq_true rfl)⟩) hG (fun u H locs hp hG => ?_)
          obtain ⟨i2, j2⟩ := u
          replace hG : gw G base s.heap (L, K, n, i2, j2, rQ, f1, fR) H locs := hG
          have hF2 : StpM (L, K, n, rI, rJ, rQ, fI, fR) bm (L, K, n, i2, j2, rQ, f1, fR) (bJoin (bEmp β (6 + b_nd β)) (6 + q) (6 + b_nd β)) := hF1.tr hp
          refine lv_aload_n hx hb dX3_group_62 rfl (lv_at hl 1 rfl) ?_
          refine lv_bipush (v := 6) hx hb dX3_group_63 (by decide) ?_
          refine lv_iload_n hx hb dX3_group_65 rfl (lv_at hl 3 rfl) ?_
          refine lv_iadd hx hb dX3_group_66 ?_
          refine lv_topi (fun z5 ez5 => ?_)
          obtain rfl : z5 = nI (6 + dd) := ez5.trans (nI_add 6 dd)
          refine lv_iload_n hx hb dX3_group_67 rfl (lv_at hl 0 rfl) ?_
          refine g_callv (va_runV (As := [.int (nI (6 + dd)), .int (nI (6 + b_nd β))]) (rest := []) ⟨hx, hb, hml, hown, hts⟩ (k_joinTo l G base hF2.1 (o := 6 + dd) (k := 6 + b_nd β) (by omega) (by omega)) (cwV 2 hts gX3_group_X3_joinTo rfl rfl rfl (by decide +kernel) ⟨(Nat.le_of_ble_eq_true rfl), (Nat.le_of_ble_eq_true rfl)⟩) (g_pv3 hK hG mL0 mK0) rfl rfl hl.1 rfl (lv_room (Nat.le_of_ble_eq_true rfl)) dX3_group_68 ⟨(Nat.le_of_ble_eq_true rfl), (Nat.le_of_ble_eq_true rfl)⟩) hG (fun u H locs hp hG => ?_)
          obtain ⟨i3, j3⟩ := u
          replace hG : gw G base s.heap (L, K, n, i3, j3, rQ, f1, fR) H locs := hG
          have hF3 : StpM (L, K, n, rI, rJ, rQ, fI, fR) bm (L, K, n, i3, j3, rQ, f1, fR) (bJoin (bJoin (bEmp β (6 + b_nd β)) (6 + q) (6 + b_nd β)) (6 + dd) (6 + b_nd β)) := hF2.tr hp
          refine lv_aload_n hx hb dX3_group_71 rfl (lv_at hl 1 rfl) ?_
          refine lv_dup hx hb dX3_group_72 rfl ?_
          refine r_Model_deltas hx hb hts (by decide +kernel) hown hK hG mL0 mK0 (hts (.fieldLink RX3 72 "DotStoresModel" "deltas" "I") (by decide +kernel)) dX3_group_73 ?_
          refine lv_topi (fun z6 ez6 => ?_)
          obtain rfl : z6 = nI (b_nd β) := ez6.trans (hT1.1.2.1.1)
          refine lv_iconst (v := 1) hx hb dX3_group_76 (by decide) ?_
          refine lv_iadd hx hb dX3_group_77 ?_
          refine lv_topi (fun z7 ez7 => ?_)
          obtain rfl : z7 = nI (b_nd β + 1) := ez7.trans (nI_1 _)
          refine w_Model_deltas hx hb hts (by decide +kernel) hown hK hG mL0 mK0 (hts (.fieldLink RX3 72 "DotStoresModel" "deltas" "I") (by decide +kernel)) dX3_group_78 (fun H locs hG => ?_)
          obtain ⟨f5, ef5⟩ : ∃ z, z = g_up f1 (bm 0) 1 (nI (b_nd β + 1)) := ⟨_, rfl⟩
          replace hG : gw G base s.heap (L, K, n, i3, j3, rQ, f5, fR) H locs := by rw [ef5]; exact hG
          have hF5 : StpM (L, K, n, rI, rJ, rQ, fI, fR) bm (L, K, n, i3, j3, rQ, f5, fR) (bGroup β q dd) := hF3.tr (repM_F hF3.1 (by rw [ef5, g_up_at]) (by omega) (fun b hb => by rw [ef5, g_up_other _ _ _ hb]))
          have hf5 : f5 (bm 0) 0 = 0 := by rw [ef5, g_up_i _ _ _ _ (by decide)]; exact hf1
          refine lv_aload_n hx hb dX3_group_81 rfl (lv_at hl 1 rfl) ?_
          refine r_Model_deltas hx hb hts (by decide +kernel) hown hK hG mL0 mK0 (hts (.fieldLink RX3 72 "DotStoresModel" "deltas" "I") (by decide +kernel)) dX3_group_82 ?_
          refine lv_topi (fun z8 ez8 => ?_)
          obtain rfl : z8 = nI (b_nd β + 1) := ez8.trans (hF5.1.2.1.1)
          refine lv_iconst (v := 1) hx hb dX3_group_85 (by decide) ?_
          refine lv_isub hx hb dX3_group_86 ?_
          refine lv_topi (fun z9 ez9 => ?_)
          obtain rfl : z9 = nI (b_nd β) := ez9.trans (nI_pred _)
          refine W.widen (k := 0) (n := 0) (by omega) (by omega) ?_
          exact W.iret (v := (nI (b_nd β))) hx hb hr (fun t9 h9 hW9 => ⟨⟨(nI (b_nd β)), ((i3, j3, f5), q, dd, 0), rfl, Or.inl ⟨hf5, ⟨hq, rfl⟩, ⟨hdd, rfl⟩, hlt, rfl, hF5⟩, hG.at h9⟩, hG.2.2.1.F h9⟩) hG.2.2.1.2.2 dX3_group_87
        · exact absurd (by decide) c9
      · have hn3 : ¬ b_nd β < 250 := (nI_250 hnd).mp (by first | exact c5 | exact Classical.not_not.mp c5)
        refine lv_iconst (v := 2) hx hb dX3_group_31 (by decide) ?_
        refine lv_goto (tgt := 36) hx hb dX3_group_32 (by decide) ?_
        refine w_Model_thrown hx hb hts (by decide +kernel) hown hK hG mL0 mK0 (hts (.fieldLink RX3 45 "DotStoresModel" "thrown" "I") (by decide +kernel)) dX3_group_36 (fun H locs hG => ?_)
        obtain ⟨f1, ef1⟩ : ∃ z, z = g_up fI (bm 0) 0 2 := ⟨_, rfl⟩
        replace hG : gw G base s.heap (L, K, n, rI, rJ, rQ, f1, fR) H locs := by rw [ef1]; exact hG
        have hT1 : StpM (L, K, n, rI, rJ, rQ, fI, fR) bm (L, K, n, rI, rJ, rQ, f1, fR) β := repM_F0 hM (by rw [ef1, g_up_i _ _ _ _ (by decide)]) (fun b hb => by rw [ef1, g_up_other _ _ _ hb])
        have hf1 : f1 (bm 0) 0 = 2 := by rw [ef1, g_up_at]
        refine lv_aload_n hx hb dX3_group_39 rfl (lv_at hl 0 rfl) ?_
        refine r_Model_thrown hx hb hts (by decide +kernel) hown hK hG mL0 mK0 (hts (.fieldLink RX3 45 "DotStoresModel" "thrown" "I") (by decide +kernel)) dX3_group_40 ?_
        refine lv_topi (fun z10 ez10 => ?_)
        obtain rfl : z10 = 2 := ez10.trans (hf1)
        refine lv_if_le (tgt := 48) hx hb dX3_group_43 (by decide) (fun c9 => ?_) (fun c9 => ?_)
        · exact absurd c9 (by decide)
        · refine lv_iconst (v := 0) hx hb dX3_group_46 (by decide) ?_
          refine W.widen (k := 0) (n := 0) (by omega) (by omega) ?_
          exact W.iret (v := 0) hx hb hr (fun t9 h9 hW9 => ⟨⟨0, ((rI, rJ, f1), 2, 0, 0), rfl, Or.inr ⟨hf1, Or.inr ⟨rfl, ⟨⟨q, hq, rfl⟩, ⟨dd, hdd, rfl⟩⟩, hn3⟩, hT1⟩, hG.at h9⟩, hG.2.2.1.F h9⟩) hG.2.2.1.2.2 dX3_group_47
    · have hno : ¬ (okI (nI q) (b_nd β) ∧ okI j (b_nd β)) := fun z => absurd ((bi_0.mp (by first | exact c2 | exact Classical.not_not.mp c2)).symm.trans (h2.mpr z.2)) (by decide)
      refine lv_iconst (v := 1) hx hb dX3_group_17 (by decide) ?_
      refine lv_goto (tgt := 36) hx hb dX3_group_18 (by decide) ?_
      refine w_Model_thrown hx hb hts (by decide +kernel) hown hK hG mL0 mK0 (hts (.fieldLink RX3 45 "DotStoresModel" "thrown" "I") (by decide +kernel)) dX3_group_36 (fun H locs hG => ?_)
      obtain ⟨f1, ef1⟩ : ∃ z, z = g_up fI (bm 0) 0 1 := ⟨_, rfl⟩
      replace hG : gw G base s.heap (L, K, n, rI, rJ, rQ, f1, fR) H locs := by rw [ef1]; exact hG
      have hT1 : StpM (L, K, n, rI, rJ, rQ, fI, fR) bm (L, K, n, rI, rJ, rQ, f1, fR) β := repM_F0 hM (by rw [ef1, g_up_i _ _ _ _ (by decide)]) (fun b hb => by rw [ef1, g_up_other _ _ _ hb])
      have hf1 : f1 (bm 0) 0 = 1 := by rw [ef1, g_up_at]
      refine lv_aload_n hx hb dX3_group_39 rfl (lv_at hl 0 rfl) ?_
      refine r_Model_thrown hx hb hts (by decide +kernel) hown hK hG mL0 mK0 (hts (.fieldLink RX3 45 "DotStoresModel" "thrown" "I") (by decide +kernel)) dX3_group_40 ?_
      refine lv_topi (fun z11 ez11 => ?_)
      obtain rfl : z11 = 1 := ez11.trans (hf1)
      refine lv_if_le (tgt := 48) hx hb dX3_group_43 (by decide) (fun c9 => ?_) (fun c9 => ?_)
      · exact absurd c9 (by decide)
      · refine lv_iconst (v := 0) hx hb dX3_group_46 (by decide) ?_
        refine W.widen (k := 0) (n := 0) (by omega) (by omega) ?_
        exact W.iret (v := 0) hx hb hr (fun t9 h9 hW9 => ⟨⟨0, ((rI, rJ, f1), 1, 0, 0), rfl, Or.inr ⟨hf1, Or.inl ⟨rfl, hno⟩, hT1⟩, hG.at h9⟩, hG.2.2.1.F h9⟩) hG.2.2.1.2.2 dX3_group_47
set_option maxHeartbeats 4000000 in
set_option maxRecDepth 100000 in
/-- whole -/
theorem k_whole (l : Launch) (G : gG) (base : Nat) {L : List Nat} {K n : Nat → Nat} {rI : Nat → Nat → Int32} {rJ : Nat → Nat → Int64} {rQ : Nat → Nat → Option Nat} {fI : Nat → Nat → Int32} {fR : Nat → Nat → Option Nat} {bm : Nat → Nat} {β : bT} (hM : RepM (L, K, n, rI, rJ, rQ, fI, fR) bm β) {v : Int32} : Met l yX3_whole wsX3_whole ({ frames := 2, cells := 0, slots := 0, locals := 45 }) (va_Pc [.ref (bm 0), .int v] (g_Pr G base (L, K, n, rI, rJ, rQ, fI, fR))) (g_Qi G base (fun u : ((Nat → Nat → Int32) × (Nat → Nat → Int64) × (Nat → Nat → Int32)) × Nat × Nat × Nat => (L, K, n, u.1.1, u.1.2.1, rQ, u.1.2.2, fR)) (fun x u => (u.1.2.2 (bm 0) 0 = 0 ∧ (u.2.1 < 6 ∧ v = nI u.2.1) ∧ b_nd β < 250 ∧ x = nI (b_nd β) ∧ StpM (L, K, n, rI, rJ, rQ, fI, fR) bm (L, K, n, u.1.1, u.1.2.1, rQ, u.1.2.2, fR) (bWhole β u.2.1)) ∨ (u.1.2.2 (bm 0) 0 = nI u.2.1 ∧ ((u.2.1 = 1 ∧ ¬ okI v 6) ∨ (u.2.1 = 2 ∧ okI v 6 ∧ ¬ b_nd β < 250)) ∧ StpM (L, K, n, rI, rJ, rQ, fI, fR) bm (L, K, n, u.1.1, u.1.2.1, rQ, u.1.2.2, fR) β))) 0 0 (g_A base) := by
  have hMd : isMd L K n fR bm := hM.1
  have hMd0 := hMd
  obtain ⟨minj, mL0, mK0, ⟨mf2, mf3, mf4, mf5, mf6, mf7, mf8, mf9, mf10, mf11, mf13⟩, ⟨mL2, mK2, mn2⟩, ⟨mL3, mK3, mn3⟩, ⟨mL4, mK4, mn4⟩, ⟨mL5, mK5, mn5⟩, ⟨mL6, mK6, mn6⟩, ⟨mL7, mK7, mn7⟩, ⟨mL8, mK8, mn8⟩, ⟨mL9, mK9, mn9⟩, ⟨mL10, mK10, mn10⟩, ⟨mL11, mK11, mn11⟩, ⟨mL13, mK13, mn13⟩⟩ := hMd0
  have hdl : fI (bm 0) 1 = nI (b_nd β) := hM.2.1.1
  have hnd : b_nd β ≤ 250 := hM.2.1.2
  refine Met.ofW (cc := cX3_whole) (maxL := 2) (ret := (some .int)) (by decide) rfl ?_
  intro p e s m args below meth c s₁ B hml hv
  obtain ⟨rfl, hPr⟩ := hv
  have hx := B.exec
  have hb := B.bytes
  have hr := B.returns
  have hts := atoms_spec (ws := wsX3_whole) B.pre
  have hown : s.vm.findClass RX3 = some m.cls := findClass_of_methodNamed B.named
  have hlocks := B.notSynchronized
  have hin : meth.name = "whole" := (name_of_methodNamed B.named B.method).1
  have hK := hPr.2.2
  have hG := hPr.gw
  have hl := lv_entry ([.ref (bm 0), .int v]) (n := 2) (Nat.le_of_ble_eq_true rfl)
  rw [lg_entry_eq]
  generalize (lg_sl ([.ref (bm 0), .int v]) ++ List.replicate (2 - (lg_sl ([.ref (bm 0), .int v])).length) Slot.unset).toArray = ls at hl ⊢
  have hl : lv_has ls 2 [(0, .ref (bm 0)), (1, .int v)] := hl
  refine g_start hPr (fun H locs hG => ?_)
  refine lv_aload_n hx hb dX3_whole_0 rfl (lv_at hl 0 rfl) ?_
  refine lv_aload_n hx hb dX3_whole_1 rfl (lv_at hl 0 rfl) ?_
  refine lv_iload_n hx hb dX3_whole_2 rfl (lv_at hl 1 rfl) ?_
  refine g_calli (va_runV (As := [.int v]) (rest := [.ref (bm 0)]) ⟨hx, hb, hml, hown, hts⟩ (k_isReplica l G base (v := v) (a := bm 0)) (cwV 1 hts gX3_whole_X3_isReplica rfl rfl rfl (by decide +kernel) ⟨(Nat.le_of_ble_eq_true rfl), (Nat.le_of_ble_eq_true rfl)⟩) (g_pv3 hK hG mL0 mK0) rfl rfl hl.1 rfl (lv_room (Nat.le_of_ble_eq_true rfl)) dX3_whole_3 ⟨(Nat.le_of_ble_eq_true rfl), (Nat.le_of_ble_eq_true rfl)⟩) hG (fun y1 b1 H locs hp hG => ?_)
  obtain ⟨e9, h1⟩ := hp
  subst e9
  refine lv_if_ne (tgt := 13) hx hb dX3_whole_6 (by decide) (fun c1 => ?_) (fun c1 => ?_)
  · obtain ⟨q, hq, rfl⟩ := h1.mp (ts_nf (fun z => c1 (bi_0.mpr z)))
    refine lv_aload_n hx hb dX3_whole_13 rfl (lv_at hl 0 rfl) ?_
    refine r_Model_deltas hx hb hts (by decide +kernel) hown hK hG mL0 mK0 (hts (.fieldLink RX3 72 "DotStoresModel" "deltas" "I") (by decide +kernel)) dX3_whole_14 ?_
    refine lv_topi (fun z1 ez1 => ?_)
    obtain rfl : z1 = nI (b_nd β) := ez1.trans (hdl)
    refine lv_sipush (v := 250) hx hb dX3_whole_17 (by decide) ?_
    refine lv_icmp_ne (tgt := 27) hx hb dX3_whole_20 (by decide) (fun c5 => ?_) (fun c5 => ?_)
    · have hlt : b_nd β < 250 := Classical.not_not.mp (fun z => c5 ((nI_250 hnd).mpr z))
      refine lv_iconst (v := 0) hx hb dX3_whole_27 (by decide) ?_
      refine w_Model_thrown hx hb hts (by decide +kernel) hown hK hG mL0 mK0 (hts (.fieldLink RX3 45 "DotStoresModel" "thrown" "I") (by decide +kernel)) dX3_whole_28 (fun H locs hG => ?_)
      obtain ⟨f1, ef1⟩ : ∃ z, z = g_up fI (bm 0) 0 0 := ⟨_, rfl⟩
      replace hG : gw G base s.heap (L, K, n, rI, rJ, rQ, f1, fR) H locs := by rw [ef1]; exact hG
      have hT1 : StpM (L, K, n, rI, rJ, rQ, fI, fR) bm (L, K, n, rI, rJ, rQ, f1, fR) β := repM_F0 hM (by rw [ef1, g_up_i _ _ _ _ (by decide)]) (fun b hb => by rw [ef1, g_up_other _ _ _ hb])
      have hf1 : f1 (bm 0) 0 = 0 := by rw [ef1, g_up_at]
      refine lv_aload_n hx hb dX3_whole_31 rfl (lv_at hl 0 rfl) ?_
      refine r_Model_thrown hx hb hts (by decide +kernel) hown hK hG mL0 mK0 (hts (.fieldLink RX3 45 "DotStoresModel" "thrown" "I") (by decide +kernel)) dX3_whole_32 ?_
      refine lv_topi (fun z2 ez2 => ?_)
      obtain rfl : z2 = 0 := ez2.trans (hf1)
      refine lv_if_le (tgt := 40) hx hb dX3_whole_35 (by decide) (fun c9 => ?_) (fun c9 => ?_)
      · refine lv_aload_n hx hb dX3_whole_40 rfl (lv_at hl 0 rfl) ?_
        refine lv_iload_n hx hb dX3_whole_41 rfl (lv_at hl 1 rfl) ?_
        refine lv_bipush (v := 6) hx hb dX3_whole_42 (by decide) ?_
        refine lv_aload_n hx hb dX3_whole_44 rfl (lv_at hl 0 rfl) ?_
        refine r_Model_deltas hx hb hts (by decide +kernel) hown hK hG mL0 mK0 (hts (.fieldLink RX3 72 "DotStoresModel" "deltas" "I") (by decide +kernel)) dX3_whole_45 ?_
        refine lv_topi (fun z3 ez3 => ?_)
        obtain rfl : z3 = nI (b_nd β) := ez3.trans (hT1.1.2.1.1)
        refine lv_iadd hx hb dX3_whole_48 ?_
        refine lv_topi (fun z4 ez4 => ?_)
        obtain rfl : z4 = nI (6 + b_nd β) := ez4.trans (nI_add 6 _)
        refine g_callv (va_runV (As := [.int (nI q), .int (nI (6 + b_nd β))]) (rest := []) ⟨hx, hb, hml, hown, hts⟩ (k_copy l G base hT1.1 (o := q) (k := 6 + b_nd β) (by omega) (by omega)) (cwV 2 hts gX3_whole_X3_copy rfl rfl rfl (by decide +kernel) ⟨(Nat.le_of_ble_eq_true rfl), (Nat.le_of_ble_eq_true rfl)⟩) (g_pv3 hK hG mL0 mK0) rfl rfl hl.1 rfl (lv_room (Nat.le_of_ble_eq_true rfl)) dX3_whole_49 ⟨(Nat.le_of_ble_eq_true rfl), (Nat.le_of_ble_eq_true rfl)⟩) hG (fun u H locs hp hG => ?_)
        obtain ⟨i2, j2⟩ := u
        replace hG : gw G base s.heap (L, K, n, i2, j2, rQ, f1, fR) H locs := hG
        have hF2 : StpM (L, K, n, rI, rJ, rQ, fI, fR) bm (L, K, n, i2, j2, rQ, f1, fR) (bCopy β q (6 + b_nd β)) := hT1.tr hp
        refine lv_aload_n hx hb dX3_whole_52 rfl (lv_at hl 0 rfl) ?_
        refine lv_dup hx hb dX3_whole_53 rfl ?_
        refine r_Model_deltas hx hb hts (by decide +kernel) hown hK hG mL0 mK0 (hts (.fieldLink RX3 72 "DotStoresModel" "deltas" "I") (by decide +kernel)) dX3_whole_54 ?_
        refine lv_topi (fun z5 ez5 => ?_)
        obtain rfl : z5 = nI (b_nd β) := ez5.trans (hT1.1.2.1.1)
        refine lv_iconst (v := 1) hx hb dX3_whole_57 (by decide) ?_
        refine lv_iadd hx hb dX3_whole_58 ?_
        refine lv_topi (fun z6 ez6 => ?_)
        obtain rfl : z6 = nI (b_nd β + 1) := ez6.trans (nI_1 _)
        refine w_Model_deltas hx hb hts (by decide +kernel) hown hK hG mL0 mK0 (hts (.fieldLink RX3 72 "DotStoresModel" "deltas" "I") (by decide +kernel)) dX3_whole_59 (fun H locs hG => ?_)
        obtain ⟨f5, ef5⟩ : ∃ z, z = g_up f1 (bm 0) 1 (nI (b_nd β + 1)) := ⟨_, rfl⟩
        replace hG : gw G base s.heap (L, K, n, i2, j2, rQ, f5, fR) H locs := by rw [ef5]; exact hG
        have hF5 : StpM (L, K, n, rI, rJ, rQ, fI, fR) bm (L, K, n, i2, j2, rQ, f5, fR) (bWhole β q) := hF2.tr (repM_F hF2.1 (by rw [ef5, g_up_at]) (by omega) (fun b hb => by rw [ef5, g_up_other _ _ _ hb]))
        have hf5 : f5 (bm 0) 0 = 0 := by rw [ef5, g_up_i _ _ _ _ (by decide)]; exact hf1
        refine lv_aload_n hx hb dX3_whole_62 rfl (lv_at hl 0 rfl) ?_
        refine r_Model_deltas hx hb hts (by decide +kernel) hown hK hG mL0 mK0 (hts (.fieldLink RX3 72 "DotStoresModel" "deltas" "I") (by decide +kernel)) dX3_whole_63 ?_
        refine lv_topi (fun z7 ez7 => ?_)
        obtain rfl : z7 = nI (b_nd β + 1) := ez7.trans (hF5.1.2.1.1)
        refine lv_iconst (v := 1) hx hb dX3_whole_66 (by decide) ?_
        refine lv_isub hx hb dX3_whole_67 ?_
        refine lv_topi (fun z8 ez8 => ?_)
        obtain rfl : z8 = nI (b_nd β) := ez8.trans (nI_pred _)
        refine W.widen (k := 0) (n := 0) (by omega) (by omega) ?_
        exact W.iret (v := (nI (b_nd β))) hx hb hr (fun t9 h9 hW9 => ⟨⟨(nI (b_nd β)), ((i2, j2, f5), q, 0, 0), rfl, Or.inl ⟨hf5, ⟨hq, rfl⟩, hlt, rfl, hF5⟩, hG.at h9⟩, hG.2.2.1.F h9⟩) hG.2.2.1.2.2 dX3_whole_68
      · exact absurd (by decide) c9
    · have hn3 : ¬ b_nd β < 250 := (nI_250 hnd).mp (by first | exact c5 | exact Classical.not_not.mp c5)
      refine lv_iconst (v := 2) hx hb dX3_whole_23 (by decide) ?_
      refine lv_goto (tgt := 28) hx hb dX3_whole_24 (by decide) ?_
      refine w_Model_thrown hx hb hts (by decide +kernel) hown hK hG mL0 mK0 (hts (.fieldLink RX3 45 "DotStoresModel" "thrown" "I") (by decide +kernel)) dX3_whole_28 (fun H locs hG => ?_)
      obtain ⟨f1, ef1⟩ : ∃ z, z = g_up fI (bm 0) 0 2 := ⟨_, rfl⟩
      replace hG : gw G base s.heap (L, K, n, rI, rJ, rQ, f1, fR) H locs := by rw [ef1]; exact hG
      have hT1 : StpM (L, K, n, rI, rJ, rQ, fI, fR) bm (L, K, n, rI, rJ, rQ, f1, fR) β := repM_F0 hM (by rw [ef1, g_up_i _ _ _ _ (by decide)]) (fun b hb => by rw [ef1, g_up_other _ _ _ hb])
      have hf1 : f1 (bm 0) 0 = 2 := by rw [ef1, g_up_at]
      refine lv_aload_n hx hb dX3_whole_31 rfl (lv_at hl 0 rfl) ?_
      refine r_Model_thrown hx hb hts (by decide +kernel) hown hK hG mL0 mK0 (hts (.fieldLink RX3 45 "DotStoresModel" "thrown" "I") (by decide +kernel)) dX3_whole_32 ?_
      refine lv_topi (fun z9 ez9 => ?_)
      obtain rfl : z9 = 2 := ez9.trans (hf1)
      refine lv_if_le (tgt := 40) hx hb dX3_whole_35 (by decide) (fun c9 => ?_) (fun c9 => ?_)
      · exact absurd c9 (by decide)
      · refine lv_iconst (v := 0) hx hb dX3_whole_38 (by decide) ?_
        refine W.widen (k := 0) (n := 0) (by omega) (by omega) ?_
        exact W.iret (v := 0) hx hb hr (fun t9 h9 hW9 => ⟨⟨0, ((rI, rJ, f1), 2, 0, 0), rfl, Or.inr ⟨hf1, Or.inr ⟨rfl, ⟨q, hq, rfl⟩, hn3⟩, hT1⟩, hG.at h9⟩, hG.2.2.1.F h9⟩) hG.2.2.1.2.2 dX3_whole_39
  · have hno : ¬ okI v 6 := fun z => absurd ((bi_0.mp (by first | exact c1 | exact Classical.not_not.mp c1)).symm.trans (h1.mpr z)) (by decide)
    refine lv_iconst (v := 1) hx hb dX3_whole_9 (by decide) ?_
    refine lv_goto (tgt := 28) hx hb dX3_whole_10 (by decide) ?_
    refine w_Model_thrown hx hb hts (by decide +kernel) hown hK hG mL0 mK0 (hts (.fieldLink RX3 45 "DotStoresModel" "thrown" "I") (by decide +kernel)) dX3_whole_28 (fun H locs hG => ?_)
    obtain ⟨f1, ef1⟩ : ∃ z, z = g_up fI (bm 0) 0 1 := ⟨_, rfl⟩
    replace hG : gw G base s.heap (L, K, n, rI, rJ, rQ, f1, fR) H locs := by rw [ef1]; exact hG
    have hT1 : StpM (L, K, n, rI, rJ, rQ, fI, fR) bm (L, K, n, rI, rJ, rQ, f1, fR) β := repM_F0 hM (by rw [ef1, g_up_i _ _ _ _ (by decide)]) (fun b hb => by rw [ef1, g_up_other _ _ _ hb])
    have hf1 : f1 (bm 0) 0 = 1 := by rw [ef1, g_up_at]
    refine lv_aload_n hx hb dX3_whole_31 rfl (lv_at hl 0 rfl) ?_
    refine r_Model_thrown hx hb hts (by decide +kernel) hown hK hG mL0 mK0 (hts (.fieldLink RX3 45 "DotStoresModel" "thrown" "I") (by decide +kernel)) dX3_whole_32 ?_
    refine lv_topi (fun z10 ez10 => ?_)
    obtain rfl : z10 = 1 := ez10.trans (hf1)
    refine lv_if_le (tgt := 40) hx hb dX3_whole_35 (by decide) (fun c9 => ?_) (fun c9 => ?_)
    · exact absurd c9 (by decide)
    · refine lv_iconst (v := 0) hx hb dX3_whole_38 (by decide) ?_
      refine W.widen (k := 0) (n := 0) (by omega) (by omega) ?_
      exact W.iret (v := 0) hx hb hr (fun t9 h9 hW9 => ⟨⟨0, ((rI, rJ, f1), 1, 0, 0), rfl, Or.inr ⟨hf1, Or.inl ⟨rfl, hno⟩, hT1⟩, hG.at h9⟩, hG.2.2.1.F h9⟩) hG.2.2.1.2.2 dX3_whole_39
