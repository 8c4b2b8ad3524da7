set_option maxHeartbeats 4000000 in
set_option maxRecDepth 100000 in
/-- same -/
theorem k_same (l : Launch) (G : gG) (base : Nat) {L : List Nat} {K n : Nat → Nat} {rI : Nat → Nat → Int32} {rJ : Nat → Nat → Int64} {rQ : Nat → Nat → Option Nat} {fI : Nat → Nat → Int32} {fR : Nat → Nat → Option Nat} {bm : Nat → Nat} {β : bT} (hM : RepM (L, K, n, rI, rJ, rQ, fI, fR) bm β) {v j : Int32} : Met l yX3_same wsX3_same ({ frames := 2, cells := 0, slots := 0, locals := 43 }) (va_Pc [.ref (bm 0), .int v, .int j] (g_Pr G base (L, K, n, rI, rJ, rQ, fI, fR))) (g_Qi G base (fun u : (Nat → Nat → Int32) × Nat × Nat × Bool => (L, K, n, rI, rJ, rQ, u.1, fR)) (fun x u => ((u.1 (bm 0) 0 = 0 ∧ (u.2.1 < 6 ∧ v = nI u.2.1) ∧ (u.2.2.1 < 6 ∧ j = nI u.2.2.1) ∧ x = bi u.2.2.2 ∧ (u.2.2.2 = true ↔ bEq β u.2.1 u.2.2.1)) ∨ (u.1 (bm 0) 0 = 1 ∧ ¬ (okI v 6 ∧ okI j 6))) ∧ StpM (L, K, n, rI, rJ, rQ, fI, fR) bm (L, K, n, rI, rJ, rQ, u.1, fR) β)) 0 0 (g_A base) := by
  have hMd : isMd L K n fR bm := hM.1
  have hMd0 := hMd
  obtain ⟨minj, mL0, mK0, ⟨mf2, mf3, mf4, mf5, mf6, mf7, mf8, mf9, mf10, mf11, mf13⟩, ⟨mL2, mK2, mn2⟩, ⟨mL3, mK3, mn3⟩, ⟨mL4, mK4, mn4⟩, ⟨mL5, mK5, mn5⟩, ⟨mL6, mK6, mn6⟩, ⟨mL7, mK7, mn7⟩, ⟨mL8, mK8, mn8⟩, ⟨mL9, mK9, mn9⟩, ⟨mL10, mK10, mn10⟩, ⟨mL11, mK11, mn11⟩, ⟨mL13, mK13, mn13⟩⟩ := hMd0
  have hdl : fI (bm 0) 1 = nI (b_nd β) := hM.2.1.1
  have hnd : b_nd β ≤ 250 := hM.2.1.2
  refine Met.ofW (cc := cX3_same) (maxL := 3) (ret := (some .int)) (by decide) rfl ?_
  intro p e s m args below meth c s₁ B hml hv
  obtain ⟨rfl, hPr⟩ := hv
  have hx := B.exec
  have hb := B.bytes
  have hr := B.returns
  have hts := atoms_spec (ws := wsX3_same) B.pre
  have hown : s.vm.findClass RX3 = some m.cls := findClass_of_methodNamed B.named
  have hlocks := B.notSynchronized
  have hin : meth.name = "same" := (name_of_methodNamed B.named B.method).1
  have hK := hPr.2.2
  have hG := hPr.gw
  have hl := lv_entry ([.ref (bm 0), .int v, .int j]) (n := 3) (Nat.le_of_ble_eq_true rfl)
  rw [lg_entry_eq]
  generalize (lg_sl ([.ref (bm 0), .int v, .int j]) ++ List.replicate (3 - (lg_sl ([.ref (bm 0), .int v, .int j])).length) Slot.unset).toArray = ls at hl ⊢
  have hl : lv_has ls 3 [(0, .ref (bm 0)), (1, .int v), (2, .int j)] := hl
  refine g_start hPr (fun H locs hG => ?_)
  refine lv_aload_n hx hb dX3_same_0 rfl (lv_at hl 0 rfl) ?_
  refine lv_aload_n hx hb dX3_same_1 rfl (lv_at hl 0 rfl) ?_
  refine lv_iload_n hx hb dX3_same_2 rfl (lv_at hl 1 rfl) ?_
  refine g_calli (va_runV (As := [.int v]) (rest := [.ref (bm 0)]) ⟨hx, hb, hml, hown, hts⟩ (k_isReplica l G base (v := v) (a := bm 0)) (cwV 1 hts gX3_same_X3_isReplica rfl rfl rfl (by decide +kernel) ⟨(Nat.le_of_ble_eq_true rfl), (Nat.le_of_ble_eq_true rfl)⟩) (g_pv3 hK hG mL0 mK0) rfl rfl hl.1 rfl (lv_room (Nat.le_of_ble_eq_true rfl)) dX3_same_3 ⟨(Nat.le_of_ble_eq_true rfl), (Nat.le_of_ble_eq_true rfl)⟩) hG (fun y1 b1 H locs hp hG => ?_)
  obtain ⟨e9, h1⟩ := hp
  subst e9
  refine lv_if_eq (tgt := 21) hx hb dX3_same_6 (by decide) (fun c1 => ?_) (fun c1 => ?_)
  · have hno : ¬ (okI v 6 ∧ okI j 6) := fun z => absurd ((bi_0.mp c1).symm.trans (h1.mpr z.1)) (by decide)
    refine lv_iconst (v := 0) hx hb dX3_same_21 (by decide) ?_
    refine g_calli (va_runV (As := [.int 0]) (rest := []) ⟨hx, hb, hml, hown, hts⟩ (k_goes l G base hM (g := false)) (cwV 1 hts gX3_same_X3_goes rfl rfl rfl (by decide +kernel) ⟨(Nat.le_of_ble_eq_true rfl), (Nat.le_of_ble_eq_true rfl)⟩) (g_pv3 hK hG mL0 mK0) rfl rfl hl.1 rfl (lv_room (Nat.le_of_ble_eq_true rfl)) dX3_same_22 ⟨(Nat.le_of_ble_eq_true rfl), (Nat.le_of_ble_eq_true rfl)⟩) hG (fun y5 _ H locs hp hG => ?_)
    obtain ⟨f1, ef1⟩ : ∃ z, z = g_up fI (bm 0) 0 (bi (!false)) := ⟨_, rfl⟩
    replace hG : gw G base s.heap (L, K, n, rI, rJ, rQ, f1, fR) H locs := by rw [ef1]; exact hG
    have hT1 : StpM (L, K, n, rI, rJ, rQ, fI, fR) bm (L, K, n, rI, rJ, rQ, f1, fR) β := repM_F0 hM (by rw [ef1, g_up_i _ _ _ _ (by decide)]) (fun b hb => by rw [ef1, g_up_other _ _ _ hb])
    have hf1 : f1 (bm 0) 0 = 1 := by rw [ef1, g_up_at]; rfl
    subst hp
    refine lv_if_eq (tgt := 41) hx hb dX3_same_25 (by decide) (fun c8 => ?_) (fun c8 => ?_)
    · refine lv_iconst (v := 0) hx hb dX3_same_41 (by decide) ?_
      refine W.widen (k := 0) (n := 0) (by omega) (by omega) ?_
      exact W.iret (v := 0) hx hb hr (fun t9 h9 hW9 => ⟨⟨0, (f1, 0, 0, false), rfl, ⟨Or.inr ⟨hf1, hno⟩, hT1⟩, hG.at h9⟩, hG.2.2.1.F h9⟩) hG.2.2.1.2.2 dX3_same_42
    · exact absurd rfl c8
  · obtain ⟨q, hq, rfl⟩ := h1.mp (ts_nf (fun z => c1 (bi_0.mpr z)))
    refine lv_aload_n hx hb dX3_same_9 rfl (lv_at hl 0 rfl) ?_
    refine lv_iload_n hx hb dX3_same_10 rfl (lv_at hl 2 rfl) ?_
    refine g_calli (va_runV (As := [.int j]) (rest := [.ref (bm 0)]) ⟨hx, hb, hml, hown, hts⟩ (k_isReplica l G base (v := j) (a := bm 0)) (cwV 1 hts gX3_same_X3_isReplica rfl rfl rfl (by decide +kernel) ⟨(Nat.le_of_ble_eq_true rfl), (Nat.le_of_ble_eq_true rfl)⟩) (g_pv3 hK hG mL0 mK0) rfl rfl hl.1 rfl (lv_room (Nat.le_of_ble_eq_true rfl)) dX3_same_11 ⟨(Nat.le_of_ble_eq_true rfl), (Nat.le_of_ble_eq_true rfl)⟩) hG (fun y2 b2 H locs hp hG => ?_)
    obtain ⟨e9, h2⟩ := hp
    subst e9
    refine lv_if_eq (tgt := 21) hx hb dX3_same_14 (by decide) (fun c2 => ?_) (fun c2 => ?_)
    · have hno : ¬ (okI (nI q) 6 ∧ okI j 6) := fun z => absurd ((bi_0.mp c2).symm.trans (h2.mpr z.2)) (by decide)
      refine lv_iconst (v := 0) hx hb dX3_same_21 (by decide) ?_
      refine g_calli (va_runV (As := [.int 0]) (rest := []) ⟨hx, hb, hml, hown, hts⟩ (k_goes l G base hM (g := false)) (cwV 1 hts gX3_same_X3_goes rfl rfl rfl (by decide +kernel) ⟨(Nat.le_of_ble_eq_true rfl), (Nat.le_of_ble_eq_true rfl)⟩) (g_pv3 hK hG mL0 mK0) rfl rfl hl.1 rfl (lv_room (Nat.le_of_ble_eq_true rfl)) dX3_same_22 ⟨(Nat.le_of_ble_eq_true rfl), (Nat.le_of_ble_eq_true rfl)⟩) hG (fun y5 _ H locs hp hG => ?_)
      obtain ⟨f1, ef1⟩ : ∃ z, z = g_up fI (bm 0) 0 (bi (!false)) := ⟨_, rfl⟩
      replace hG : gw G base s.heap (L, K, n, rI, rJ, rQ, f1, fR) H locs := by rw [ef1]; exact hG
      have hT1 : StpM (L, K, n, rI, rJ, rQ, fI, fR) bm (L, K, n, rI, rJ, rQ, f1, fR) β := repM_F0 hM (by rw [ef1, g_up_i _ _ _ _ (by decide)]) (fun b hb => by rw [ef1, g_up_other _ _ _ hb])
      have hf1 : f1 (bm 0) 0 = 1 := by rw [ef1, g_up_at]; rfl
      subst hp
      refine lv_if_eq (tgt := 41) hx hb dX3_same_25 (by decide) (fun c8 => ?_) (fun c8 => ?_)
      · refine lv_iconst (v := 0) hx hb dX3_same_41 (by decide) ?_
        refine W.widen (k := 0) (n := 0) (by omega) (by omega) ?_
        exact W.iret (v := 0) hx hb hr (fun t9 h9 hW9 => ⟨⟨0, (f1, 0, 0, false), rfl, ⟨Or.inr ⟨hf1, hno⟩, hT1⟩, hG.at h9⟩, hG.2.2.1.F h9⟩) hG.2.2.1.2.2 dX3_same_42
      · exact absurd rfl c8
    · obtain ⟨dd, hdd, rfl⟩ := h2.mp (ts_nf (fun z => c2 (bi_0.mpr z)))
      refine lv_iconst (v := 1) hx hb dX3_same_17 (by decide) ?_
      refine lv_goto (tgt := 22) hx hb dX3_same_18 (by decide) ?_
      refine g_calli (va_runV (As := [.int 1]) (rest := []) ⟨hx, hb, hml, hown, hts⟩ (k_goes l G base hM (g := true)) (cwV 1 hts gX3_same_X3_goes rfl rfl rfl (by decide +kernel) ⟨(Nat.le_of_ble_eq_true rfl), (Nat.le_of_ble_eq_true rfl)⟩) (g_pv3 hK hG mL0 mK0) rfl rfl hl.1 rfl (lv_room (Nat.le_of_ble_eq_true rfl)) dX3_same_22 ⟨(Nat.le_of_ble_eq_true rfl), (Nat.le_of_ble_eq_true rfl)⟩) hG (fun y5 _ H locs hp hG => ?_)
      obtain ⟨f1, ef1⟩ : ∃ z, z = g_up fI (bm 0) 0 (bi (!true)) := ⟨_, rfl⟩
      replace hG : gw G base s.heap (L, K, n, rI, rJ, rQ, f1, fR) H locs := by rw [ef1]; exact hG
      have hT1 : StpM (L, K, n, rI, rJ, rQ, fI, fR) bm (L, K, n, rI, rJ, rQ, f1, fR) β := repM_F0 hM (by rw [ef1, g_up_i _ _ _ _ (by decide)]) (fun b hb => by rw [ef1, g_up_other _ _ _ hb])
      have hf1 : f1 (bm 0) 0 = 0 := by rw [ef1, g_up_at]; rfl
      subst hp
      refine lv_if_eq (tgt := 41) hx hb dX3_same_25 (by decide) (fun c8 => ?_) (fun c8 => ?_)
      · exact absurd c8 (by decide)
      · refine lv_aload_n hx hb dX3_same_28 rfl (lv_at hl 0 rfl) ?_
        refine lv_iload_n hx hb dX3_same_29 rfl (lv_at hl 1 rfl) ?_
        refine lv_iload_n hx hb dX3_same_30 rfl (lv_at hl 2 rfl) ?_
        refine g_calli (va_runV (As := [.int (nI q), .int (nI dd)]) (rest := []) ⟨hx, hb, hml, hown, hts⟩ (k_isSame l G base hT1.1 (a := q) (b := dd) (by omega) (by omega)) (cwV 2 hts gX3_same_X3_isSame rfl rfl rfl (by decide +kernel) ⟨(Nat.le_of_ble_eq_true rfl), (Nat.le_of_ble_eq_true rfl)⟩) (g_pv3 hK hG mL0 mK0) rfl rfl hl.1 rfl (lv_room (Nat.le_of_ble_eq_true rfl)) dX3_same_31 ⟨(Nat.le_of_ble_eq_true rfl), (Nat.le_of_ble_eq_true rfl)⟩) hG (fun y6 sm H locs hp hG => ?_)
        obtain ⟨e6, h6⟩ := hp
        subst e6
        refine lv_if_eq (tgt := 41) hx hb dX3_same_34 (by decide) (fun c6 => ?_) (fun c6 => ?_)
        · have c6 := bi_0.mp c6
          subst c6
          refine lv_iconst (v := 0) hx hb dX3_same_41 (by decide) ?_
          refine W.widen (k := 0) (n := 0) (by omega) (by omega) ?_
          exact W.iret (v := 0) hx hb hr (fun t9 h9 hW9 => ⟨⟨0, (f1, q, dd, false), rfl, ⟨Or.inl ⟨hf1, ⟨hq, rfl⟩, ⟨hdd, rfl⟩, rfl, h6⟩, hT1⟩, hG.at h9⟩, hG.2.2.1.F h9⟩) hG.2.2.1.2.2 dX3_same_42
        · have c6 := ts_nf (fun z => c6 (bi_0.mpr z))
          subst c6
          refine lv_iconst (v := 1) hx hb dX3_same_37 (by decide) ?_
          refine lv_goto (tgt := 42) hx hb dX3_same_38 (by decide) ?_
          refine W.widen (k := 0) (n := 0) (by omega) (by omega) ?_
          exact W.iret (v := 1) hx hb hr (fun t9 h9 hW9 => ⟨⟨1, (f1, q, dd, true), rfl, ⟨Or.inl ⟨hf1, ⟨hq, rfl⟩, ⟨hdd, rfl⟩, rfl, h6⟩, hT1⟩, hG.at h9⟩, hG.2.2.1.F h9⟩) hG.2.2.1.2.2 dX3_same_42
set_option maxHeartbeats 4000000 in
set_option maxRecDepth 100000 in
/-- below -/
theorem k_below (l : Launch) (G : gG) (base : Nat) {L : List Nat} {K n : Nat → Nat} {rI : Nat → Nat → Int32} {rJ : Nat → Nat → Int64} {rQ : Nat → Nat → Option Nat} {fI : Nat → Nat → Int32} {fR : Nat → Nat → Option Nat} {bm : Nat → Nat} {β : bT} (hM : RepM (L, K, n, rI, rJ, rQ, fI, fR) bm β) {v j : Int32} : Met l yX3_below wsX3_below ({ frames := 2, cells := 0, slots := 0, locals := 47 }) (va_Pc [.ref (bm 0), .int v, .int j] (g_Pr G base (L, K, n, rI, rJ, rQ, fI, fR))) (g_Qi G base (fun u : ((Nat → Nat → Int32) × (Nat → Nat → Int64) × (Nat → Nat → Int32)) × Nat × Nat × Bool => (L, K, n, u.1.1, u.1.2.1, rQ, u.1.2.2, fR)) (fun x u => (u.1.2.2 (bm 0) 0 = 0 ∧ (u.2.1 < 6 ∧ v = nI u.2.1) ∧ (u.2.2.1 < 6 ∧ j = nI u.2.2.1) ∧ x = bi u.2.2.2 ∧ (u.2.2.2 = true ↔ bEq (bJoin (bCopy β u.2.2.1 256) u.2.1 256) u.2.2.1 256) ∧ StpM (L, K, n, rI, rJ, rQ, fI, fR) bm (L, K, n, u.1.1, u.1.2.1, rQ, u.1.2.2, fR) (bJoin (bCopy β u.2.2.1 256) u.2.1 256)) ∨ (u.1.2.2 (bm 0) 0 = 1 ∧ ¬ (okI v 6 ∧ okI j 6) ∧ StpM (L, K, n, rI, rJ, rQ, fI, fR) bm (L, K, n, u.1.1, u.1.2.1, rQ, u.1.2.2, fR) β))) 0 0 (g_A base) := by
  have hMd : isMd L K n fR bm := hM.1
  have hMd0 := hMd
  obtain ⟨minj, mL0, mK0, ⟨mf2, mf3, mf4, mf5, mf6, mf7, mf8, mf9, mf10, mf11, mf13⟩, ⟨mL2, mK2, mn2⟩, ⟨mL3, mK3, mn3⟩, ⟨mL4, mK4, mn4⟩, ⟨mL5, mK5, mn5⟩, ⟨mL6, mK6, mn6⟩, ⟨mL7, mK7, mn7⟩, ⟨mL8, mK8, mn8⟩, ⟨mL9, mK9, mn9⟩, ⟨mL10, mK10, mn10⟩, ⟨mL11, mK11, mn11⟩, ⟨mL13, mK13, mn13⟩⟩ := hMd0
  have hdl : fI (bm 0) 1 = nI (b_nd β) := hM.2.1.1
  have hnd : b_nd β ≤ 250 := hM.2.1.2
  refine Met.ofW (cc := cX3_below) (maxL := 3) (ret := (some .int)) (by decide) rfl ?_
  intro p e s m args below meth c s₁ B hml hv
  obtain ⟨rfl, hPr⟩ := hv
  have hx := B.exec
  have hb := B.bytes
  have hr := B.returns
  have hts := atoms_spec (ws := wsX3_below) B.pre
  have hown : s.vm.findClass RX3 = some m.cls := findClass_of_methodNamed B.named
  have hlocks := B.notSynchronized
  have hin : meth.name = "below" := (name_of_methodNamed B.named B.method).1
  have hK := hPr.2.2
  have hG := hPr.gw
  have hl := lv_entry ([.ref (bm 0), .int v, .int j]) (n := 3) (Nat.le_of_ble_eq_true rfl)
  rw [lg_entry_eq]
  generalize (lg_sl ([.ref (bm 0), .int v, .int j]) ++ List.replicate (3 - (lg_sl ([.ref (bm 0), .int v, .int j])).length) Slot.unset).toArray = ls at hl ⊢
  have hl : lv_has ls 3 [(0, .ref (bm 0)), (1, .int v), (2, .int j)] := hl
  refine g_start hPr (fun H locs hG => ?_)
  refine lv_aload_n hx hb dX3_below_0 rfl (lv_at hl 0 rfl) ?_
  refine lv_aload_n hx hb dX3_below_1 rfl (lv_at hl 0 rfl) ?_
  refine lv_iload_n hx hb dX3_below_2 rfl (lv_at hl 1 rfl) ?_
  refine g_calli (va_runV (As := [.int v]) (rest := [.ref (bm 0)]) ⟨hx, hb, hml, hown, hts⟩ (k_isReplica l G base (v := v) (a := bm 0)) (cwV 1 hts gX3_below_X3_isReplica rfl rfl rfl (by decide +kernel) ⟨(Nat.le_of_ble_eq_true rfl), (Nat.le_of_ble_eq_true rfl)⟩) (g_pv3 hK hG mL0 mK0) rfl rfl hl.1 rfl (lv_room (Nat.le_of_ble_eq_true rfl)) dX3_below_3 ⟨(Nat.le_of_ble_eq_true rfl), (Nat.le_of_ble_eq_true rfl)⟩) hG (fun y1 b1 H locs hp hG => ?_)
  obtain ⟨e9, h1⟩ := hp
  subst e9
  refine lv_if_eq (tgt := 21) hx hb dX3_below_6 (by decide) (fun c1 => ?_) (fun c1 => ?_)
  · have hno : ¬ (okI v 6 ∧ okI j 6) := fun z => absurd ((bi_0.mp c1).symm.trans (h1.mpr z.1)) (by decide)
    refine lv_iconst (v := 0) hx hb dX3_below_21 (by decide) ?_
    refine g_calli (va_runV (As := [.int 0]) (rest := []) ⟨hx, hb, hml, hown, hts⟩ (k_goes l G base hM (g := false)) (cwV 1 hts gX3_below_X3_goes rfl rfl rfl (by decide +kernel) ⟨(Nat.le_of_ble_eq_true rfl), (Nat.le_of_ble_eq_true rfl)⟩) (g_pv3 hK hG mL0 mK0) rfl rfl hl.1 rfl (lv_room (Nat.le_of_ble_eq_true rfl)) dX3_below_22 ⟨(Nat.le_of_ble_eq_true rfl), (Nat.le_of_ble_eq_true rfl)⟩) hG (fun y5 _ H locs hp hG => ?_)
    obtain ⟨f1, ef1⟩ : ∃ z, z = g_up fI (bm 0) 0 (bi (!false)) := ⟨_, rfl⟩
    replace hG : gw G base s.heap (L, K, n, rI, rJ, rQ, f1, fR) H locs := by rw [ef1]; exact hG
    have hT1 : StpM (L, K, n, rI, rJ, rQ, fI, fR) bm (L, K, n, rI, rJ, rQ, f1, fR) β := repM_F0 hM (by rw [ef1, g_up_i _ _ _ _ (by decide)]) (fun b hb => by rw [ef1, g_up_other _ _ _ hb])
    have hf1 : f1 (bm 0) 0 = 1 := by rw [ef1, g_up_at]; rfl
    subst hp
    refine lv_if_ne (tgt := 30) hx hb dX3_below_25 (by decide) (fun c8 => ?_) (fun c8 => ?_)
    · exact absurd rfl c8
    · refine lv_iconst (v := 0) hx hb dX3_below_28 (by decide) ?_
      refine W.widen (k := 0) (n := 0) (by omega) (by omega) ?_
      exact W.iret (v := 0) hx hb hr (fun t9 h9 hW9 => ⟨⟨0, ((rI, rJ, f1), 0, 0, false), rfl, Or.inr ⟨hf1, hno, hT1⟩, hG.at h9⟩, hG.2.2.1.F h9⟩) hG.2.2.1.2.2 dX3_below_29
  · obtain ⟨q, hq, rfl⟩ := h1.mp (ts_nf (fun z => c1 (bi_0.mpr z)))
    refine lv_aload_n hx hb dX3_below_9 rfl (lv_at hl 0 rfl) ?_
    refine lv_iload_n hx hb dX3_below_10 rfl (lv_at hl 2 rfl) ?_
    refine g_calli (va_runV (As := [.int j]) (rest := [.ref (bm 0)]) ⟨hx, hb, hml, hown, hts⟩ (k_isReplica l G base (v := j) (a := bm 0)) (cwV 1 hts gX3_below_X3_isReplica rfl rfl rfl (by decide +kernel) ⟨(Nat.le_of_ble_eq_true rfl), (Nat.le_of_ble_eq_true rfl)⟩) (g_pv3 hK hG mL0 mK0) rfl rfl hl.1 rfl (lv_room (Nat.le_of_ble_eq_true rfl)) dX3_below_11 ⟨(Nat.le_of_ble_eq_true rfl), (Nat.le_of_ble_eq_true rfl)⟩) hG (fun y2 b2 H locs hp hG => ?_)
    obtain ⟨e9, h2⟩ := hp
    subst e9
    refine lv_if_eq (tgt := 21) hx hb dX3_below_14 (by decide) (fun c2 => ?_) (fun c2 => ?_)
    · have hno : ¬ (okI (nI q) 6 ∧ okI j 6) := fun z => absurd ((bi_0.mp c2).symm.trans (h2.mpr z.2)) (by decide)
      refine lv_iconst (v := 0) hx hb dX3_below_21 (by decide) ?_
      refine g_calli (va_runV (As := [.int 0]) (rest := []) ⟨hx, hb, hml, hown, hts⟩ (k_goes l G base hM (g := false)) (cwV 1 hts gX3_below_X3_goes rfl rfl rfl (by decide +kernel) ⟨(Nat.le_of_ble_eq_true rfl), (Nat.le_of_ble_eq_true rfl)⟩) (g_pv3 hK hG mL0 mK0) rfl rfl hl.1 rfl (lv_room (Nat.le_of_ble_eq_true rfl)) dX3_below_22 ⟨(Nat.le_of_ble_eq_true rfl), (Nat.le_of_ble_eq_true rfl)⟩) hG (fun y5 _ H locs hp hG => ?_)
      obtain ⟨f1, ef1⟩ : ∃ z, z = g_up fI (bm 0) 0 (bi (!false)) := ⟨_, rfl⟩
      replace hG : gw G base s.heap (L, K, n, rI, rJ, rQ, f1, fR) H locs := by rw [ef1]; exact hG
      have hT1 : StpM (L, K, n, rI, rJ, rQ, fI, fR) bm (L, K, n, rI, rJ, rQ, f1, fR) β := repM_F0 hM (by rw [ef1, g_up_i _ _ _ _ (by decide)]) (fun b hb => by rw [ef1, g_up_other _ _ _ hb])
      have hf1 : f1 (bm 0) 0 = 1 := by rw [ef1, g_up_at]; rfl
      subst hp
      refine lv_if_ne (tgt := 30) hx hb dX3_below_25 (by decide) (fun c8 => ?_) (fun c8 => ?_)
      · exact absurd rfl c8
      · refine lv_iconst (v := 0) hx hb dX3_below_28 (by decide) ?_
        refine W.widen (k := 0) (n := 0) (by omega) (by omega) ?_
        exact W.iret (v := 0) hx hb hr (fun t9 h9 hW9 => ⟨⟨0, ((rI, rJ, f1), 0, 0, false), rfl, Or.inr ⟨hf1, hno, hT1⟩, hG.at h9⟩, hG.2.2.1.F h9⟩) hG.2.2.1.2.2 dX3_below_29
    · obtain ⟨dd, hdd, rfl⟩ := h2.mp (ts_nf (fun z => c2 (bi_0.mpr z)))
      refine lv_iconst (v := 1) hx hb dX3_below_17 (by decide) ?_
      refine lv_goto (tgt := 22) hx hb dX3_below_18 (by decide) ?_
      refine g_calli (va_runV (As := [.int 1]) (rest := []) ⟨hx, hb, hml, hown, hts⟩ (k_goes l G base hM (g := true)) (cwV 1 hts gX3_below_X3_goes rfl rfl rfl (by decide +kernel) ⟨(Nat.le_of_ble_eq_true rfl), (Nat.le_of_ble_eq_true rfl)⟩) (g_pv3 hK hG mL0 mK0) rfl rfl hl.1 rfl (lv_room (Nat.le_of_ble_eq_true rfl)) dX3_below_22 ⟨(Nat.le_of_ble_eq_true rfl), (Nat.le_of_ble_eq_true rfl)⟩) hG (fun y5 _ H locs hp hG => ?_)
      obtain ⟨f1, ef1⟩ : ∃ z, z = g_up fI (bm 0) 0 (bi (!true)) := ⟨_, rfl⟩
      replace hG : gw G base s.heap (L, K, n, rI, rJ, rQ, f1, fR) H locs := by rw [ef1]; exact hG
      have hT1 : StpM (L, K, n, rI, rJ, rQ, fI, fR) bm (L, K, n, rI, rJ, rQ, f1, fR) β := repM_F0 hM (by rw [ef1, g_up_i _ _ _ _ (by decide)]) (fun b hb => by rw [ef1, g_up_other _ _ _ hb])
      have hf1 : f1 (bm 0) 0 = 0 := by rw [ef1, g_up_at]; rfl
      subst hp
      refine lv_if_ne (tgt := 30) hx hb dX3_below_25 (by decide) (fun c8 => ?_) (fun c8 => ?_)
      · refine lv_aload_n hx hb dX3_below_30 rfl (lv_at hl 0 rfl) ?_
        refine lv_iload_n hx hb dX3_below_31 rfl (lv_at hl 2 rfl) ?_
        refine lv_sipush (v := 256) hx hb dX3_below_32 (by decide) ?_
        refine g_callv (va_runV (As := [.int (nI dd), .int 256]) (rest := []) ⟨hx, hb, hml, hown, hts⟩ (k_copy l G base hT1.1 (o := dd) (k := 256) (by omega) (by decide)) (cwV 2 hts gX3_below_X3_copy rfl rfl rfl (by decide +kernel) ⟨(Nat.le_of_ble_eq_true rfl), (Nat.le_of_ble_eq_true rfl)⟩) (g_pv3 hK hG mL0 mK0) rfl rfl hl.1 rfl (lv_room (Nat.le_of_ble_eq_true rfl)) dX3_below_35 ⟨(Nat.le_of_ble_eq_true rfl), (Nat.le_of_ble_eq_true rfl)⟩) hG (fun u H locs hp hG => ?_)
        obtain ⟨i2, j2⟩ := u
        replace hG : gw G base s.heap (L, K, n, i2, j2, rQ, f1, fR) H locs := hG
        have hF2 : StpM (L, K, n, rI, rJ, rQ, fI, fR) bm (L, K, n, i2, j2, rQ, f1, fR) (bCopy β dd 256) := hT1.tr hp
        refine lv_aload_n hx hb dX3_below_38 rfl (lv_at hl 0 rfl) ?_
        refine lv_iload_n hx hb dX3_below_39 rfl (lv_at hl 1 rfl) ?_
        refine lv_sipush (v := 256) hx hb dX3_below_40 (by decide) ?_
        refine g_callv (va_runV (As := [.int (nI q), .int 256]) (rest := []) ⟨hx, hb, hml, hown, hts⟩ (k_joinTo l G base hF2.1 (o := q) (k := 256) (by omega) (by omega)) (cwV 2 hts gX3_below_X3_joinTo rfl rfl rfl (by decide +kernel) ⟨(Nat.le_of_ble_eq_true rfl), (Nat.le_of_ble_eq_true rfl)⟩) (g_pv3 hK hG mL0 mK0) rfl rfl hl.1 rfl (lv_room (Nat.le_of_ble_eq_true rfl)) dX3_below_43 ⟨(Nat.le_of_ble_eq_true rfl), (Nat.le_of_ble_eq_true rfl)⟩) hG (fun u H locs hp hG => ?_)
        obtain ⟨i3, j3⟩ := u
        replace hG : gw G base s.heap (L, K, n, i3, j3, rQ, f1, fR) H locs := hG
        have hF3 : StpM (L, K, n, rI, rJ, rQ, fI, fR) bm (L, K, n, i3, j3, rQ, f1, fR) (bJoin (bCopy β dd 256) q 256) := hF2.tr hp
        refine lv_aload_n hx hb dX3_below_46 rfl (lv_at hl 0 rfl) ?_
        refine lv_iload_n hx hb dX3_below_47 rfl (lv_at hl 2 rfl) ?_
        refine lv_sipush (v := 256) hx hb dX3_below_48 (by decide) ?_
        refine g_calli (va_runV (As := [.int (nI dd), .int 256]) (rest := []) ⟨hx, hb, hml, hown, hts⟩ (k_isSame l G base hF3.1 (a := dd) (b := 256) (by omega) (by decide)) (cwV 2 hts gX3_below_X3_isSame rfl rfl rfl (by decide +kernel) ⟨(Nat.le_of_ble_eq_true rfl), (Nat.le_of_ble_eq_true rfl)⟩) (g_pv3 hK hG mL0 mK0) rfl rfl hl.1 rfl (lv_room (Nat.le_of_ble_eq_true rfl)) dX3_below_51 ⟨(Nat.le_of_ble_eq_true rfl), (Nat.le_of_ble_eq_true rfl)⟩) hG (fun y6 sm H locs hp hG => ?_)
        obtain ⟨e6, h6⟩ := hp
        subst e6
        refine lv_if_eq (tgt := 61) hx hb dX3_below_54 (by decide) (fun c6 => ?_) (fun c6 => ?_)
        · have c6 := bi_0.mp c6
          subst c6
          refine lv_iconst (v := 0) hx hb dX3_below_61 (by decide) ?_
          refine W.widen (k := 0) (n := 0) (by omega) (by omega) ?_
          exact W.iret (v := 0) hx hb hr (fun t9 h9 hW9 => ⟨⟨0, ((i3, j3, f1), q, dd, false), rfl, Or.inl ⟨hf1, ⟨hq, rfl⟩, ⟨hdd, rfl⟩, rfl, h6, hF3⟩, hG.at h9⟩, hG.2.2.1.F h9⟩) hG.2.2.1.2.2 dX3_below_62
        · have c6 := ts_nf (fun z => c6 (bi_0.mpr z))
          subst c6
          refine lv_iconst (v := 1) hx hb dX3_below_57 (by decide) ?_
          refine lv_goto (tgt := 62) hx hb dX3_below_58 (by decide) ?_
          refine W.widen (k := 0) (n := 0) (by omega) (by omega) ?_
          exact W.iret (v := 1) hx hb hr (fun t9 h9 hW9 => ⟨⟨1, ((i3, j3, f1), q, dd, true), rfl, Or.inl ⟨hf1, ⟨hq, rfl⟩, ⟨hdd, rfl⟩, rfl, h6, hF3⟩, hG.at h9⟩, hG.2.2.1.F h9⟩) hG.2.2.1.2.2 dX3_below_62
      · exact absurd c8 (by decide)
set_option maxHeartbeats 4000000 in
set_option maxRecDepth 100000 in
/-- inTwice -/
theorem k_inTwice (l : Launch) (G : gG) (base : Nat) {L : List Nat} {K n : Nat → Nat} {rI : Nat → Nat → Int32} {rJ : Nat → Nat → Int64} {rQ : Nat → Nat → Option Nat} {fI : Nat → Nat → Int32} {fR : Nat → Nat → Option Nat} {bm : Nat → Nat} {β : bT} (hM : RepM (L, K, n, rI, rJ, rQ, fI, fR) bm β) {v el : Int32} : Met l yX3_inTwice wsX3_inTwice ({ frames := 2, cells := 0, slots := 0, locals := 43 }) (va_Pc [.ref (bm 0), .int v, .int el] (g_Pr G base (L, K, n, rI, rJ, rQ, fI, fR))) (g_Qi G base (fun u : (Nat → Nat → Int32) × Nat × Nat => (L, K, n, rI, rJ, rQ, u.1, fR)) (fun x u => ((u.1 (bm 0) 0 = 0 ∧ (u.2.1 < 6 ∧ v = nI u.2.1) ∧ (u.2.2 < 32 ∧ el = nI u.2.2) ∧ x = ((b_P β u.2.1 &&& (b_T β u.2.1 ^^^ (-1))) >>> (nI u.2.2 &&& 31)) &&& 1) ∨ (u.1 (bm 0) 0 = 1 ∧ ¬ (okI v 6 ∧ okI el 32))) ∧ StpM (L, K, n, rI, rJ, rQ, fI, fR) bm (L, K, n, rI, rJ, rQ, u.1, fR) β)) 0 0 (g_A base) := by
  have hMd : isMd L K n fR bm := hM.1
  have hMd0 := hMd
  obtain ⟨minj, mL0, mK0, ⟨mf2, mf3, mf4, mf5, mf6, mf7, mf8, mf9, mf10, mf11, mf13⟩, ⟨mL2, mK2, mn2⟩, ⟨mL3, mK3, mn3⟩, ⟨mL4, mK4, mn4⟩, ⟨mL5, mK5, mn5⟩, ⟨mL6, mK6, mn6⟩, ⟨mL7, mK7, mn7⟩, ⟨mL8, mK8, mn8⟩, ⟨mL9, mK9, mn9⟩, ⟨mL10, mK10, mn10⟩, ⟨mL11, mK11, mn11⟩, ⟨mL13, mK13, mn13⟩⟩ := hMd0
  have hdl : fI (bm 0) 1 = nI (b_nd β) := hM.2.1.1
  have hnd : b_nd β ≤ 250 := hM.2.1.2
  refine Met.ofW (cc := cX3_inTwice) (maxL := 3) (ret := (some .int)) (by decide) rfl ?_
  intro p e s m args below meth c s₁ B hml hv
  obtain ⟨rfl, hPr⟩ := hv
  have hx := B.exec
  have hb := B.bytes
  have hr := B.returns
  have hts := atoms_spec (ws := wsX3_inTwice) B.pre
  have hown : s.vm.findClass RX3 = some m.cls := findClass_of_methodNamed B.named
  have hlocks := B.notSynchronized
  have hin : meth.name = "inTwice" := (name_of_methodNamed B.named B.method).1
  have hK := hPr.2.2
  have hG := hPr.gw
  have hl := lv_entry ([.ref (bm 0), .int v, .int el]) (n := 3) (Nat.le_of_ble_eq_true rfl)
  rw [lg_entry_eq]
  generalize (lg_sl ([.ref (bm 0), .int v, .int el]) ++ List.replicate (3 - (lg_sl ([.ref (bm 0), .int v, .int el])).length) Slot.unset).toArray = ls at hl ⊢
  have hl : lv_has ls 3 [(0, .ref (bm 0)), (1, .int v), (2, .int el)] := hl
  refine g_start hPr (fun H locs hG => ?_)
  refine lv_aload_n hx hb dX3_inTwice_0 rfl (lv_at hl 0 rfl) ?_
  refine lv_aload_n hx hb dX3_inTwice_1 rfl (lv_at hl 0 rfl) ?_
  refine lv_iload_n hx hb dX3_inTwice_2 rfl (lv_at hl 1 rfl) ?_
  refine g_calli (va_runV (As := [.int v]) (rest := [.ref (bm 0)]) ⟨hx, hb, hml, hown, hts⟩ (k_isReplica l G base (v := v) (a := bm 0)) (cwV 1 hts gX3_inTwice_X3_isReplica rfl rfl rfl (by decide +kernel) ⟨(Nat.le_of_ble_eq_true rfl), (Nat.le_of_ble_eq_true rfl)⟩) (g_pv3 hK hG mL0 mK0) rfl rfl hl.1 rfl (lv_room (Nat.le_of_ble_eq_true rfl)) dX3_inTwice_3 ⟨(Nat.le_of_ble_eq_true rfl), (Nat.le_of_ble_eq_true rfl)⟩) hG (fun y1 b1 H locs hp hG => ?_)
  obtain ⟨e9, h1⟩ := hp
  subst e9
  refine lv_if_eq (tgt := 20) hx hb dX3_inTwice_6 (by decide) (fun c1 => ?_) (fun c1 => ?_)
  · have hno : ¬ (okI v 6 ∧ okI el 32) := fun z => absurd ((bi_0.mp c1).symm.trans (h1.mpr z.1)) (by decide)
    refine lv_iconst (v := 0) hx hb dX3_inTwice_20 (by decide) ?_
    refine g_calli (va_runV (As := [.int 0]) (rest := []) ⟨hx, hb, hml, hown, hts⟩ (k_goes l G base hM (g := false)) (cwV 1 hts gX3_inTwice_X3_goes rfl rfl rfl (by decide +kernel) ⟨(Nat.le_of_ble_eq_true rfl), (Nat.le_of_ble_eq_true rfl)⟩) (g_pv3 hK hG mL0 mK0) rfl rfl hl.1 rfl (lv_room (Nat.le_of_ble_eq_true rfl)) dX3_inTwice_21 ⟨(Nat.le_of_ble_eq_true rfl), (Nat.le_of_ble_eq_true rfl)⟩) hG (fun y5 _ H locs hp hG => ?_)
    obtain ⟨f1, ef1⟩ : ∃ z, z = g_up fI (bm 0) 0 (bi (!false)) := ⟨_, rfl⟩
    replace hG : gw G base s.heap (L, K, n, rI, rJ, rQ, f1, fR) H locs := by rw [ef1]; exact hG
    have hT1 : StpM (L, K, n, rI, rJ, rQ, fI, fR) bm (L, K, n, rI, rJ, rQ, f1, fR) β := repM_F0 hM (by rw [ef1, g_up_i _ _ _ _ (by decide)]) (fun b hb => by rw [ef1, g_up_other _ _ _ hb])
    have hf1 : f1 (bm 0) 0 = 1 := by rw [ef1, g_up_at]; rfl
    subst hp
    refine lv_if_eq (tgt := 49) hx hb dX3_inTwice_24 (by decide) (fun c8 => ?_) (fun c8 => ?_)
    · refine lv_iconst (v := 0) hx hb dX3_inTwice_49 (by decide) ?_
      refine W.widen (k := 0) (n := 0) (by omega) (by omega) ?_
      exact W.iret (v := 0) hx hb hr (fun t9 h9 hW9 => ⟨⟨0, (f1, 0, 0), rfl, ⟨Or.inr ⟨hf1, hno⟩, hT1⟩, hG.at h9⟩, hG.2.2.1.F h9⟩) hG.2.2.1.2.2 dX3_inTwice_50
    · exact absurd rfl c8
  · obtain ⟨q, hq, rfl⟩ := h1.mp (ts_nf (fun z => c1 (bi_0.mpr z)))
    refine lv_iload_n hx hb dX3_inTwice_9 rfl (lv_at hl 2 rfl) ?_
    refine g_calli (va_runS (As := [.int el]) (rest := [.ref (bm 0)]) ⟨hx, hb, hml, hown, hts⟩ (k_isElement l G base (v := el)) (cwS 1 hts gX3_inTwice_X3_isElement rfl rfl rfl (by decide +kernel) ⟨(Nat.le_of_ble_eq_true rfl), (Nat.le_of_ble_eq_true rfl)⟩) (g_ps hK hG) rfl rfl hl.1 rfl (lv_room (Nat.le_of_ble_eq_true rfl)) dX3_inTwice_10 ⟨(Nat.le_of_ble_eq_true rfl), (Nat.le_of_ble_eq_true rfl)⟩) hG (fun y2 b2 H locs hp hG => ?_)
    obtain ⟨e9, h2⟩ := hp
    subst e9
    refine lv_if_eq (tgt := 20) hx hb dX3_inTwice_13 (by decide) (fun c2 => ?_) (fun c2 => ?_)
    · have hno : ¬ (okI (nI q) 6 ∧ okI el 32) := fun z => absurd ((bi_0.mp c2).symm.trans (h2.mpr z.2)) (by decide)
      refine lv_iconst (v := 0) hx hb dX3_inTwice_20 (by decide) ?_
      refine g_calli (va_runV (As := [.int 0]) (rest := []) ⟨hx, hb, hml, hown, hts⟩ (k_goes l G base hM (g := false)) (cwV 1 hts gX3_inTwice_X3_goes rfl rfl rfl (by decide +kernel) ⟨(Nat.le_of_ble_eq_true rfl), (Nat.le_of_ble_eq_true rfl)⟩) (g_pv3 hK hG mL0 mK0) rfl rfl hl.1 rfl (lv_room (Nat.le_of_ble_eq_true rfl)) dX3_inTwice_21 ⟨(Nat.le_of_ble_eq_true rfl), (Nat.le_of_ble_eq_true rfl)⟩) hG (fun y5 _ H locs hp hG => ?_)
      obtain ⟨f1, ef1⟩ : ∃ z, z = g_up fI (bm 0) 0 (bi (!false)) := ⟨_, rfl⟩
      replace hG : gw G base s.heap (L, K, n, rI, rJ, rQ, f1, fR) H locs := by rw [ef1]; exact hG
      have hT1 : StpM (L, K, n, rI, rJ, rQ, fI, fR) bm (L, K, n, rI, rJ, rQ, f1, fR) β := repM_F0 hM (by rw [ef1, g_up_i _ _ _ _ (by decide)]) (fun b hb => by rw [ef1, g_up_other _ _ _ hb])
      have hf1 : f1 (bm 0) 0 = 1 := by rw [ef1, g_up_at]; rfl
      subst hp
      refine lv_if_eq (tgt := 49) hx hb dX3_inTwice_24 (by decide) (fun c8 => ?_) (fun c8 => ?_)
      · refine lv_iconst (v := 0) hx hb dX3_inTwice_49 (by decide) ?_
        refine W.widen (k := 0) (n := 0) (by omega) (by omega) ?_
        exact W.iret (v := 0) hx hb hr (fun t9 h9 hW9 => ⟨⟨0, (f1, 0, 0), rfl, ⟨Or.inr ⟨hf1, hno⟩, hT1⟩, hG.at h9⟩, hG.2.2.1.F h9⟩) hG.2.2.1.2.2 dX3_inTwice_50
      · exact absurd rfl c8
    · obtain ⟨ee, hee, rfl⟩ := h2.mp (ts_nf (fun z => c2 (bi_0.mpr z)))
      refine lv_iconst (v := 1) hx hb dX3_inTwice_16 (by decide) ?_
      refine lv_goto (tgt := 21) hx hb dX3_inTwice_17 (by decide) ?_
      refine g_calli (va_runV (As := [.int 1]) (rest := []) ⟨hx, hb, hml, hown, hts⟩ (k_goes l G base hM (g := true)) (cwV 1 hts gX3_inTwice_X3_goes rfl rfl rfl (by decide +kernel) ⟨(Nat.le_of_ble_eq_true rfl), (Nat.le_of_ble_eq_true rfl)⟩) (g_pv3 hK hG mL0 mK0) rfl rfl hl.1 rfl (lv_room (Nat.le_of_ble_eq_true rfl)) dX3_inTwice_21 ⟨(Nat.le_of_ble_eq_true rfl), (Nat.le_of_ble_eq_true rfl)⟩) hG (fun y5 _ H locs hp hG => ?_)
      obtain ⟨f1, ef1⟩ : ∃ z, z = g_up fI (bm 0) 0 (bi (!true)) := ⟨_, rfl⟩
      replace hG : gw G base s.heap (L, K, n, rI, rJ, rQ, f1, fR) H locs := by rw [ef1]; exact hG
      have hT1 : StpM (L, K, n, rI, rJ, rQ, fI, fR) bm (L, K, n, rI, rJ, rQ, f1, fR) β := repM_F0 hM (by rw [ef1, g_up_i _ _ _ _ (by decide)]) (fun b hb => by rw [ef1, g_up_other _ _ _ hb])
      have hf1 : f1 (bm 0) 0 = 0 := by rw [ef1, g_up_at]; rfl
      subst hp
      refine lv_if_eq (tgt := 49) hx hb dX3_inTwice_24 (by decide) (fun c8 => ?_) (fun c8 => ?_)
      · exact absurd c8 (by decide)
      · refine lv_aload_n hx hb dX3_inTwice_27 rfl (lv_at hl 0 rfl) ?_
        refine r_Model_put hx hb hts (by decide +kernel) hown hK hG mL0 mK0 mf4 (hts (.fieldLink RX3 16 "DotStoresModel" "put" "[I") (by decide +kernel)) dX3_inTwice_28 ?_
        refine lv_iload_n hx hb dX3_inTwice_31 rfl (lv_at hl 1 rfl) ?_
        refine g_iald hx hb hK hG mL4 mK4 (q) rfl (by rw [mn4]; omega) (by rw [mn4]; decide) dX3_inTwice_32 ?_
        refine lv_topi (fun z1 ez1 => ?_)
        obtain rfl : z1 = b_P β q := ez1.trans ((hM.2.2.2.1 q (by omega)).1)
        refine lv_aload_n hx hb dX3_inTwice_33 rfl (lv_at hl 0 rfl) ?_
        refine r_Model_taken hx hb hts (by decide +kernel) hown hK hG mL0 mK0 mf5 (hts (.fieldLink RX3 20 "DotStoresModel" "taken" "[I") (by decide +kernel)) dX3_inTwice_34 ?_
        refine lv_iload_n hx hb dX3_inTwice_37 rfl (lv_at hl 1 rfl) ?_
        refine g_iald hx hb hK hG mL5 mK5 (q) rfl (by rw [mn5]; omega) (by rw [mn5]; decide) dX3_inTwice_38 ?_
        refine lv_topi (fun z2 ez2 => ?_)
        obtain rfl : z2 = b_T β q := ez2.trans ((hM.2.2.2.1 q (by omega)).2)
        refine lv_iconst (v := (-1)) hx hb dX3_inTwice_39 (by decide) ?_
        refine lv_ixor hx hb dX3_inTwice_40 ?_
        refine lv_iand hx hb dX3_inTwice_41 ?_
        refine lv_iload_n hx hb dX3_inTwice_42 rfl (lv_at hl 2 rfl) ?_
        refine lv_ishr hx hb dX3_inTwice_43 ?_
        refine lv_iconst (v := 1) hx hb dX3_inTwice_44 (by decide) ?_
        refine lv_iand hx hb dX3_inTwice_45 ?_
        refine lv_goto (tgt := 50) hx hb dX3_inTwice_46 (by decide) ?_
        refine W.widen (k := 0) (n := 0) (by omega) (by omega) ?_
        exact W.iret (v := ((((b_P β q) &&& ((b_T β q) ^^^ (-1))) >>> ((nI ee) &&& 31)) &&& 1)) hx hb hr (fun t9 h9 hW9 => ⟨⟨((((b_P β q) &&& ((b_T β q) ^^^ (-1))) >>> ((nI ee) &&& 31)) &&& 1), (f1, q, ee), rfl, ⟨Or.inl ⟨hf1, ⟨hq, rfl⟩, ⟨hee, rfl⟩, rfl⟩, hT1⟩, hG.at h9⟩, hG.2.2.1.F h9⟩) hG.2.2.1.2.2 dX3_inTwice_50
/-- what inTimed answers -/
def timB (t b : Int32) (i : Bool) (wh : Int32) : Int32 := if wh = 0 then bi i else if wh = 1 then t - 1 else if 0 < t then b else -1
set_option maxHeartbeats 4000000 in
set_option maxRecDepth 100000 in
/-- inTimed -/
theorem k_inTimed (l : Launch) (G : gG) (base : Nat) {L : List Nat} {K n : Nat → Nat} {rI : Nat → Nat → Int32} {rJ : Nat → Nat → Int64} {rQ : Nat → Nat → Option Nat} {fI : Nat → Nat → Int32} {fR : Nat → Nat → Option Nat} {bm : Nat → Nat} {β : bT} (hM : RepM (L, K, n, rI, rJ, rQ, fI, fR) bm β) {v el wh : Int32} : Met l yX3_inTimed wsX3_inTimed ({ frames := 2, cells := 0, slots := 0, locals := 43 }) (va_Pc [.ref (bm 0), .int v, .int el, .int wh] (g_Pr G base (L, K, n, rI, rJ, rQ, fI, fR))) (g_Qi G base (fun u : (Nat → Nat → Int32) × Nat × Nat => (L, K, n, rI, rJ, rQ, u.1, fR)) (fun x u => ((u.1 (bm 0) 0 = 0 ∧ (u.2.1 < 6 ∧ v = nI u.2.1) ∧ (u.2.2 < 32 ∧ el = nI u.2.2) ∧ okI wh 3 ∧ x = timB (b_tm β u.2.1 u.2.2) (b_by β u.2.1 u.2.2) (b_in β u.2.1 u.2.2) wh) ∨ (u.1 (bm 0) 0 = 1 ∧ ¬ (okI v 6 ∧ okI el 32 ∧ okI wh 3))) ∧ StpM (L, K, n, rI, rJ, rQ, fI, fR) bm (L, K, n, rI, rJ, rQ, u.1, fR) β)) 0 0 (g_A base) := by
  have hMd : isMd L K n fR bm := hM.1
  have hMd0 := hMd
  obtain ⟨minj, mL0, mK0, ⟨mf2, mf3, mf4, mf5, mf6, mf7, mf8, mf9, mf10, mf11, mf13⟩, ⟨mL2, mK2, mn2⟩, ⟨mL3, mK3, mn3⟩, ⟨mL4, mK4, mn4⟩, ⟨mL5, mK5, mn5⟩, ⟨mL6, mK6, mn6⟩, ⟨mL7, mK7, mn7⟩, ⟨mL8, mK8, mn8⟩, ⟨mL9, mK9, mn9⟩, ⟨mL10, mK10, mn10⟩, ⟨mL11, mK11, mn11⟩, ⟨mL13, mK13, mn13⟩⟩ := hMd0
  have hdl : fI (bm 0) 1 = nI (b_nd β) := hM.2.1.1
  have hnd : b_nd β ≤ 250 := hM.2.1.2
  refine Met.ofW (cc := cX3_inTimed) (maxL := 5) (ret := (some .int)) (by decide) rfl ?_
  intro p e s m args below meth c s₁ B hml hv
  obtain ⟨rfl, hPr⟩ := hv
  have hx := B.exec
  have hb := B.bytes
  have hr := B.returns
  have hts := atoms_spec (ws := wsX3_inTimed) B.pre
  have hown : s.vm.findClass RX3 = some m.cls := findClass_of_methodNamed B.named
  have hlocks := B.notSynchronized
  have hin : meth.name = "inTimed" := (name_of_methodNamed B.named B.method).1
  have hK := hPr.2.2
  have hG := hPr.gw
  have hl := lv_entry ([.ref (bm 0), .int v, .int el, .int wh]) (n := 5) (Nat.le_of_ble_eq_true rfl)
  rw [lg_entry_eq]
  generalize (lg_sl ([.ref (bm 0), .int v, .int el, .int wh]) ++ List.replicate (5 - (lg_sl ([.ref (bm 0), .int v, .int el, .int wh])).length) Slot.unset).toArray = ls at hl ⊢
  have hl : lv_has ls 5 [(0, .ref (bm 0)), (1, .int v), (2, .int el), (3, .int wh)] := hl
  refine g_start hPr (fun H locs hG => ?_)
  refine lv_aload_n hx hb dX3_inTimed_0 rfl (lv_at hl 0 rfl) ?_
  refine lv_aload_n hx hb dX3_inTimed_1 rfl (lv_at hl 0 rfl) ?_
  refine lv_iload_n hx hb dX3_inTimed_2 rfl (lv_at hl 1 rfl) ?_
  refine g_calli (va_runV (As := [.int v]) (rest := [.ref (bm 0)]) ⟨hx, hb, hml, hown, hts⟩ (k_isReplica l G base (v := v) (a := bm 0)) (cwV 1 hts gX3_inTimed_X3_isReplica rfl rfl rfl (by decide +kernel) ⟨(Nat.le_of_ble_eq_true rfl), (Nat.le_of_ble_eq_true rfl)⟩) (g_pv3 hK hG mL0 mK0) rfl rfl hl.1 rfl (lv_room (Nat.le_of_ble_eq_true rfl)) dX3_inTimed_3 ⟨(Nat.le_of_ble_eq_true rfl), (Nat.le_of_ble_eq_true rfl)⟩) hG (fun y1 b1 H locs hp hG => ?_)
  obtain ⟨e9, h1⟩ := hp
  subst e9
  refine lv_if_eq (tgt := 29) hx hb dX3_inTimed_6 (by decide) (fun c1 => ?_) (fun c1 => ?_)
  · have hno : ¬ (okI v 6 ∧ okI el 32 ∧ okI wh 3) := fun z => absurd ((bi_0.mp c1).symm.trans (h1.mpr z.1)) (by decide)
    refine lv_iconst (v := 0) hx hb dX3_inTimed_29 (by decide) ?_
    refine g_calli (va_runV (As := [.int 0]) (rest := []) ⟨hx, hb, hml, hown, hts⟩ (k_goes l G base hM (g := false)) (cwV 1 hts gX3_inTimed_X3_goes rfl rfl rfl (by decide +kernel) ⟨(Nat.le_of_ble_eq_true rfl), (Nat.le_of_ble_eq_true rfl)⟩) (g_pv3 hK hG mL0 mK0) rfl rfl hl.1 rfl (lv_room (Nat.le_of_ble_eq_true rfl)) dX3_inTimed_30 ⟨(Nat.le_of_ble_eq_true rfl), (Nat.le_of_ble_eq_true rfl)⟩) hG (fun y5 _ H locs hp hG => ?_)
    obtain ⟨f1, ef1⟩ : ∃ z, z = g_up fI (bm 0) 0 (bi (!false)) := ⟨_, rfl⟩
    replace hG : gw G base s.heap (L, K, n, rI, rJ, rQ, f1, fR) H locs := by rw [ef1]; exact hG
    have hT1 : StpM (L, K, n, rI, rJ, rQ, fI, fR) bm (L, K, n, rI, rJ, rQ, f1, fR) β := repM_F0 hM (by rw [ef1, g_up_i _ _ _ _ (by decide)]) (fun b hb => by rw [ef1, g_up_other _ _ _ hb])
    have hf1 : f1 (bm 0) 0 = 1 := by rw [ef1, g_up_at]; rfl
    subst hp
    refine lv_if_ne (tgt := 38) hx hb dX3_inTimed_33 (by decide) (fun c8 => ?_) (fun c8 => ?_)
    · exact absurd rfl c8
    · refine lv_iconst (v := 0) hx hb dX3_inTimed_36 (by decide) ?_
      refine W.widen (k := 0) (n := 0) (by omega) (by omega) ?_
      exact W.iret (v := 0) hx hb hr (fun t9 h9 hW9 => ⟨⟨0, (f1, 0, 0), rfl, ⟨Or.inr ⟨hf1, hno⟩, hT1⟩, hG.at h9⟩, hG.2.2.1.F h9⟩) hG.2.2.1.2.2 dX3_inTimed_37
  · obtain ⟨q, hq, rfl⟩ := h1.mp (ts_nf (fun z => c1 (bi_0.mpr z)))
    refine lv_iload_n hx hb dX3_inTimed_9 rfl (lv_at hl 2 rfl) ?_
    refine g_calli (va_runS (As := [.int el]) (rest := [.ref (bm 0)]) ⟨hx, hb, hml, hown, hts⟩ (k_isElement l G base (v := el)) (cwS 1 hts gX3_inTimed_X3_isElement rfl rfl rfl (by decide +kernel) ⟨(Nat.le_of_ble_eq_true rfl), (Nat.le_of_ble_eq_true rfl)⟩) (g_ps hK hG) rfl rfl hl.1 rfl (lv_room (Nat.le_of_ble_eq_true rfl)) dX3_inTimed_10 ⟨(Nat.le_of_ble_eq_true rfl), (Nat.le_of_ble_eq_true rfl)⟩) hG (fun y2 b2 H locs hp hG => ?_)
    obtain ⟨e9, h2⟩ := hp
    subst e9
    refine lv_if_eq (tgt := 29) hx hb dX3_inTimed_13 (by decide) (fun c2 => ?_) (fun c2 => ?_)
    · have hno : ¬ (okI (nI q) 6 ∧ okI el 32 ∧ okI wh 3) := fun z => absurd ((bi_0.mp c2).symm.trans (h2.mpr z.2.1)) (by decide)
      refine lv_iconst (v := 0) hx hb dX3_inTimed_29 (by decide) ?_
      refine g_calli (va_runV (As := [.int 0]) (rest := []) ⟨hx, hb, hml, hown, hts⟩ (k_goes l G base hM (g := false)) (cwV 1 hts gX3_inTimed_X3_goes rfl rfl rfl (by decide +kernel) ⟨(Nat.le_of_ble_eq_true rfl), (Nat.le_of_ble_eq_true rfl)⟩) (g_pv3 hK hG mL0 mK0) rfl rfl hl.1 rfl (lv_room (Nat.le_of_ble_eq_true rfl)) dX3_inTimed_30 ⟨(Nat.le_of_ble_eq_true rfl), (Nat.le_of_ble_eq_true rfl)⟩) hG (fun y5 _ H locs hp hG => ?_)
      obtain ⟨f1, ef1⟩ : ∃ z, z = g_up fI (bm 0) 0 (bi (!false)) := ⟨_, rfl⟩
      replace hG : gw G base s.heap (L, K, n, rI, rJ, rQ, f1, fR) H locs := by rw [ef1]; exact hG
      have hT1 : StpM (L, K, n, rI, rJ, rQ, fI, fR) bm (L, K, n, rI, rJ, rQ, f1, fR) β := repM_F0 hM (by rw [ef1, g_up_i _ _ _ _ (by decide)]) (fun b hb => by rw [ef1, g_up_other _ _ _ hb])
      have hf1 : f1 (bm 0) 0 = 1 := by rw [ef1, g_up_at]; rfl
      subst hp
      refine lv_if_ne (tgt := 38) hx hb dX3_inTimed_33 (by decide) (fun c8 => ?_) (fun c8 => ?_)
      · exact absurd rfl c8
      · refine lv_iconst (v := 0) hx hb dX3_inTimed_36 (by decide) ?_
        refine W.widen (k := 0) (n := 0) (by omega) (by omega) ?_
        exact W.iret (v := 0) hx hb hr (fun t9 h9 hW9 => ⟨⟨0, (f1, 0, 0), rfl, ⟨Or.inr ⟨hf1, hno⟩, hT1⟩, hG.at h9⟩, hG.2.2.1.F h9⟩) hG.2.2.1.2.2 dX3_inTimed_37
    · obtain ⟨ee, hee, rfl⟩ := h2.mp (ts_nf (fun z => c2 (bi_0.mpr z)))
      refine lv_iload_n hx hb dX3_inTimed_16 rfl (lv_at hl 3 rfl) ?_
      refine lv_iconst (v := 0) hx hb dX3_inTimed_17 (by decide) ?_
      refine lv_iconst (v := 2) hx hb dX3_inTimed_18 (by decide) ?_
      refine g_calli (va_runS (As := [.int wh, .int 0, .int 2]) (rest := [.ref (bm 0)]) ⟨hx, hb, hml, hown, hts⟩ (k_in l G base (v := wh) (lo := 0) (hi := 2)) (cwS 3 hts gX3_inTimed_X3_in rfl rfl rfl (by decide +kernel) ⟨(Nat.le_of_ble_eq_true rfl), (Nat.le_of_ble_eq_true rfl)⟩) (g_ps hK hG) rfl rfl hl.1 rfl (lv_room (Nat.le_of_ble_eq_true rfl)) dX3_inTimed_19 ⟨(Nat.le_of_ble_eq_true rfl), (Nat.le_of_ble_eq_true rfl)⟩) hG (fun y3 b3 H locs hp hG => ?_)
      obtain ⟨e9, h3⟩ := hp
      replace h3 := h3.trans (okI_le (v := wh) (N := 3) (by decide))
      subst e9
      refine lv_if_eq (tgt := 29) hx hb dX3_inTimed_22 (by decide) (fun c3 => ?_) (fun c3 => ?_)
      · have hno : ¬ (okI (nI q) 6 ∧ okI (nI ee) 32 ∧ okI wh 3) := fun z => absurd ((bi_0.mp c3).symm.trans (h3.mpr z.2.2)) (by decide)
        refine lv_iconst (v := 0) hx hb dX3_inTimed_29 (by decide) ?_
        refine g_calli (va_runV (As := [.int 0]) (rest := []) ⟨hx, hb, hml, hown, hts⟩ (k_goes l G base hM (g := false)) (cwV 1 hts gX3_inTimed_X3_goes rfl rfl rfl (by decide +kernel) ⟨(Nat.le_of_ble_eq_true rfl), (Nat.le_of_ble_eq_true rfl)⟩) (g_pv3 hK hG mL0 mK0) rfl rfl hl.1 rfl (lv_room (Nat.le_of_ble_eq_true rfl)) dX3_inTimed_30 ⟨(Nat.le_of_ble_eq_true rfl), (Nat.le_of_ble_eq_true rfl)⟩) hG (fun y5 _ H locs hp hG => ?_)
        obtain ⟨f1, ef1⟩ : ∃ z, z = g_up fI (bm 0) 0 (bi (!false)) := ⟨_, rfl⟩
        replace hG : gw G base s.heap (L, K, n, rI, rJ, rQ, f1, fR) H locs := by rw [ef1]; exact hG
        have hT1 : StpM (L, K, n, rI, rJ, rQ, fI, fR) bm (L, K, n, rI, rJ, rQ, f1, fR) β := repM_F0 hM (by rw [ef1, g_up_i _ _ _ _ (by decide)]) (fun b hb => by rw [ef1, g_up_other _ _ _ hb])
        have hf1 : f1 (bm 0) 0 = 1 := by rw [ef1, g_up_at]; rfl
        subst hp
        refine lv_if_ne (tgt := 38) hx hb dX3_inTimed_33 (by decide) (fun c8 => ?_) (fun c8 => ?_)
        · exact absurd rfl c8
        · refine lv_iconst (v := 0) hx hb dX3_inTimed_36 (by decide) ?_
          refine W.widen (k := 0) (n := 0) (by omega) (by omega) ?_
          exact W.iret (v := 0) hx hb hr (fun t9 h9 hW9 => ⟨⟨0, (f1, 0, 0), rfl, ⟨Or.inr ⟨hf1, hno⟩, hT1⟩, hG.at h9⟩, hG.2.2.1.F h9⟩) hG.2.2.1.2.2 dX3_inTimed_37
      · have hwh := h3.mp (ts_nf (fun z => c3 (bi_0.mpr z)))
        refine lv_iconst (v := 1) hx hb dX3_inTimed_25 (by decide) ?_
        refine lv_goto (tgt := 30) hx hb dX3_inTimed_26 (by decide) ?_
        refine g_calli (va_runV (As := [.int 1]) (rest := []) ⟨hx, hb, hml, hown, hts⟩ (k_goes l G base hM (g := true)) (cwV 1 hts gX3_inTimed_X3_goes rfl rfl rfl (by decide +kernel) ⟨(Nat.le_of_ble_eq_true rfl), (Nat.le_of_ble_eq_true rfl)⟩) (g_pv3 hK hG mL0 mK0) rfl rfl hl.1 rfl (lv_room (Nat.le_of_ble_eq_true rfl)) dX3_inTimed_30 ⟨(Nat.le_of_ble_eq_true rfl), (Nat.le_of_ble_eq_true rfl)⟩) hG (fun y5 _ H locs hp hG => ?_)
        obtain ⟨f1, ef1⟩ : ∃ z, z = g_up fI (bm 0) 0 (bi (!true)) := ⟨_, rfl⟩
        replace hG : gw G base s.heap (L, K, n, rI, rJ, rQ, f1, fR) H locs := by rw [ef1]; exact hG
        have hT1 : StpM (L, K, n, rI, rJ, rQ, fI, fR) bm (L, K, n, rI, rJ, rQ, f1, fR) β := repM_F0 hM (by rw [ef1, g_up_i _ _ _ _ (by decide)]) (fun b hb => by rw [ef1, g_up_other _ _ _ hb])
        have hf1 : f1 (bm 0) 0 = 0 := by rw [ef1, g_up_at]; rfl
        subst hp
        refine lv_if_ne (tgt := 38) hx hb dX3_inTimed_33 (by decide) (fun c8 => ?_) (fun c8 => ?_)
        · refine lv_bipush (v := 32) hx hb dX3_inTimed_38 (by decide) ?_
          refine lv_iload_n hx hb dX3_inTimed_40 rfl (lv_at hl 1 rfl) ?_
          refine lv_imul hx hb dX3_inTimed_41 ?_
          refine lv_iload_n hx hb dX3_inTimed_42 rfl (lv_at hl 2 rfl) ?_
          refine lv_iadd hx hb dX3_inTimed_43 ?_
          refine lv_topi (fun z1 ez1 => ?_)
          obtain rfl : z1 = nI (32 * q + ee) := ez1.trans (m32 q ee)
          refine lv_istore (lv' := [(4, .int (nI (32 * q + ee))), (0, .ref (bm 0)), (1, .int (nI q)), (2, .int (nI ee)), (3, .int wh)]) hx hb dX3_inTimed_44 hl (by decide) rfl (fun ls hl => ?_)
          refine lv_iload_n hx hb dX3_inTimed_46 rfl (lv_at hl 4 rfl) ?_
          refine lv_if_ne (tgt := 68) hx hb dX3_inTimed_47 (by decide) (fun c4 => ?_) (fun c4 => ?_)
          · refine lv_iload_n hx hb dX3_inTimed_68 rfl (lv_at hl 4 rfl) ?_
            refine lv_iconst (v := 1) hx hb dX3_inTimed_69 (by decide) ?_
            refine lv_icmp_ne (tgt := 85) hx hb dX3_inTimed_70 (by decide) (fun c6 => ?_) (fun c6 => ?_)
            · refine lv_aload_n hx hb dX3_inTimed_85 rfl (lv_at hl 1 rfl) ?_
              refine r_Model_time hx hb hts (by decide +kernel) hown hK hG mL0 mK0 mf6 (hts (.fieldLink RX3 23 "DotStoresModel" "time" "[I") (by decide +kernel)) dX3_inTimed_86 ?_
              refine lv_iload hx hb dX3_inTimed_89 (lv_at hl 0 rfl) ?_
              refine g_iald hx hb hK hG mL6 mK6 (32 * q + ee) rfl (by rw [mn6]; omega) (by rw [mn6]; decide) dX3_inTimed_91 ?_
              refine lv_topi (fun z2 ez2 => ?_)
              obtain rfl : z2 = b_tm β q ee := ez2.trans ((hM.2.2.2.2.1 q (by omega) ee hee).1)
              refine lv_if_le (tgt := 105) hx hb dX3_inTimed_92 (by decide) (fun c7 => ?_) (fun c7 => ?_)
              · have c7 : ¬ 0 < b_tm β q ee := Int32.not_lt.mpr c7
                refine lv_iconst (v := (-1)) hx hb dX3_inTimed_105 (by decide) ?_
                refine W.widen (k := 0) (n := 0) (by omega) (by omega) ?_
                exact W.iret (v := (-1)) hx hb hr (fun t9 h9 hW9 => ⟨⟨(-1), (f1, q, ee), rfl, ⟨Or.inl ⟨hf1, ⟨hq, rfl⟩, ⟨hee, rfl⟩, hwh, by unfold timB; rw [if_neg c4, if_neg c6, if_neg c7]⟩, hT1⟩, hG.at h9⟩, hG.2.2.1.F h9⟩) hG.2.2.1.2.2 dX3_inTimed_106
              · have c7 : 0 < b_tm β q ee := Int32.not_le.mp c7
                refine lv_aload_n hx hb dX3_inTimed_95 rfl (lv_at hl 1 rfl) ?_
                refine r_Model_by hx hb hts (by decide +kernel) hown hK hG mL0 mK0 mf7 (hts (.fieldLink RX3 26 "DotStoresModel" "by" "[I") (by decide +kernel)) dX3_inTimed_96 ?_
                refine lv_iload hx hb dX3_inTimed_99 (lv_at hl 0 rfl) ?_
                refine g_iald hx hb hK hG mL7 mK7 (32 * q + ee) rfl (by rw [mn7]; omega) (by rw [mn7]; decide) dX3_inTimed_101 ?_
                refine lv_topi (fun z3 ez3 => ?_)
                obtain rfl : z3 = b_by β q ee := ez3.trans ((hM.2.2.2.2.1 q (by omega) ee hee).2.1)
                refine lv_goto (tgt := 106) hx hb dX3_inTimed_102 (by decide) ?_
                refine W.widen (k := 0) (n := 0) (by omega) (by omega) ?_
                exact W.iret (v := (b_by β q ee)) hx hb hr (fun t9 h9 hW9 => ⟨⟨(b_by β q ee), (f1, q, ee), rfl, ⟨Or.inl ⟨hf1, ⟨hq, rfl⟩, ⟨hee, rfl⟩, hwh, by unfold timB; rw [if_neg c4, if_neg c6, if_pos c7]⟩, hT1⟩, hG.at h9⟩, hG.2.2.1.F h9⟩) hG.2.2.1.2.2 dX3_inTimed_106
            · have c6 : wh = 1 := (by first | exact c6 | exact Classical.not_not.mp c6)
              refine lv_aload_n hx hb dX3_inTimed_73 rfl (lv_at hl 1 rfl) ?_
              refine r_Model_time hx hb hts (by decide +kernel) hown hK hG mL0 mK0 mf6 (hts (.fieldLink RX3 23 "DotStoresModel" "time" "[I") (by decide +kernel)) dX3_inTimed_74 ?_
              refine lv_iload hx hb dX3_inTimed_77 (lv_at hl 0 rfl) ?_
              refine g_iald hx hb hK hG mL6 mK6 (32 * q + ee) rfl (by rw [mn6]; omega) (by rw [mn6]; decide) dX3_inTimed_79 ?_
              refine lv_topi (fun z4 ez4 => ?_)
              obtain rfl : z4 = b_tm β q ee := ez4.trans ((hM.2.2.2.2.1 q (by omega) ee hee).1)
              refine lv_iconst (v := 1) hx hb dX3_inTimed_80 (by decide) ?_
              refine lv_isub hx hb dX3_inTimed_81 ?_
              refine lv_goto (tgt := 106) hx hb dX3_inTimed_82 (by decide) ?_
              refine W.widen (k := 0) (n := 0) (by omega) (by omega) ?_
              exact W.iret (v := ((b_tm β q ee) - 1)) hx hb hr (fun t9 h9 hW9 => ⟨⟨((b_tm β q ee) - 1), (f1, q, ee), rfl, ⟨Or.inl ⟨hf1, ⟨hq, rfl⟩, ⟨hee, rfl⟩, hwh, by unfold timB; rw [if_neg c4, if_pos c6]⟩, hT1⟩, hG.at h9⟩, hG.2.2.1.F h9⟩) hG.2.2.1.2.2 dX3_inTimed_106
          · have c4 : wh = 0 := (by first | exact c4 | exact Classical.not_not.mp c4)
            refine lv_aload_n hx hb dX3_inTimed_50 rfl (lv_at hl 1 rfl) ?_
            refine r_Model_isIn hx hb hts (by decide +kernel) hown hK hG mL0 mK0 mf8 (hts (.fieldLink RX3 29 "DotStoresModel" "isIn" "[Z") (by decide +kernel)) dX3_inTimed_51 ?_
            refine lv_iload hx hb dX3_inTimed_54 (lv_at hl 0 rfl) ?_
            refine g_zald hx hb hK hG mL8 mK8 (32 * q + ee) rfl (by rw [mn8]; omega) (by rw [mn8]; decide) dX3_inTimed_56 ?_
            refine lv_topi (fun z5 ez5 => ?_)
            obtain rfl : z5 = bi (b_in β q ee) := ez5.trans ((hM.2.2.2.2.1 q (by omega) ee hee).2.2)
            refine lv_if_eq (tgt := 64) hx hb dX3_inTimed_57 (by decide) (fun c5 => ?_) (fun c5 => ?_)
            · have c5 := bi_0.mp c5
              refine lv_iconst (v := 0) hx hb dX3_inTimed_64 (by decide) ?_
              refine lv_goto (tgt := 106) hx hb dX3_inTimed_65 (by decide) ?_
              refine W.widen (k := 0) (n := 0) (by omega) (by omega) ?_
              exact W.iret (v := 0) hx hb hr (fun t9 h9 hW9 => ⟨⟨0, (f1, q, ee), rfl, ⟨Or.inl ⟨hf1, ⟨hq, rfl⟩, ⟨hee, rfl⟩, hwh, by unfold timB; rw [if_pos c4, c5]; rfl⟩, hT1⟩, hG.at h9⟩, hG.2.2.1.F h9⟩) hG.2.2.1.2.2 dX3_inTimed_106
            · have c5 := ts_nf (fun z => c5 (bi_0.mpr z))
              refine lv_iconst (v := 1) hx hb dX3_inTimed_60 (by decide) ?_
              refine lv_goto (tgt := 106) hx hb dX3_inTimed_61 (by decide) ?_
              refine W.widen (k := 0) (n := 0) (by omega) (by omega) ?_
              exact W.iret (v := 1) hx hb hr (fun t9 h9 hW9 => ⟨⟨1, (f1, q, ee), rfl, ⟨Or.inl ⟨hf1, ⟨hq, rfl⟩, ⟨hee, rfl⟩, hwh, by unfold timB; rw [if_pos c4, c5]; rfl⟩, hT1⟩, hG.at h9⟩, hG.2.2.1.F h9⟩) hG.2.2.1.2.2 dX3_inTimed_106
        · exact absurd c8 (by decide)
theorem okI_n1 {x : Int32} {N : Nat} (hN : N < 2 ^ 31) (h : okI x N) : ¬ x = -1 := by
  rintro rfl
  obtain ⟨r, hr, e⟩ := h
  have h1 : ¬ (-1 : Int32) < 0 := by rw [e]; exact nI_pos (by omega)
  exact h1 (by decide)
set_option maxHeartbeats 4000000 in
set_option maxRecDepth 100000 in
/-- has -/
theorem k_has (l : Launch) (G : gG) (base : Nat) {L : List Nat} {K n : Nat → Nat} {rI : Nat → Nat → Int32} {rJ : Nat → Nat → Int64} {rQ : Nat → Nat → Option Nat} {fI : Nat → Nat → Int32} {fR : Nat → Nat → Option Nat} {bm : Nat → Nat} {β : bT} (hM : RepM (L, K, n, rI, rJ, rQ, fI, fR) bm β) {v key part : Int32} : Met l yX3_has wsX3_has ({ frames := 2, cells := 0, slots := 0, locals := 43 }) (va_Pc [.ref (bm 0), .int v, .int key, .int part] (g_Pr G base (L, K, n, rI, rJ, rQ, fI, fR))) (g_Qi G base (fun u : (Nat → Nat → Int32) × Nat => (L, K, n, rI, rJ, rQ, u.1, fR)) (fun x u => ((u.1 (bm 0) 0 = 0 ∧ (u.2 < 6 ∧ v = nI u.2) ∧ okI key 16 ∧ okI part 32 ∧ x = bi (anyN (livB β u.2 key part (-1)) 600)) ∨ (u.1 (bm 0) 0 = 1 ∧ ¬ (okI v 6 ∧ okI key 16 ∧ okI part 32))) ∧ StpM (L, K, n, rI, rJ, rQ, fI, fR) bm (L, K, n, rI, rJ, rQ, u.1, fR) β)) 0 0 (g_A base) := by
  have hMd : isMd L K n fR bm := hM.1
  have hMd0 := hMd
  obtain ⟨minj, mL0, mK0, ⟨mf2, mf3, mf4, mf5, mf6, mf7, mf8, mf9, mf10, mf11, mf13⟩, ⟨mL2, mK2, mn2⟩, ⟨mL3, mK3, mn3⟩, ⟨mL4, mK4, mn4⟩, ⟨mL5, mK5, mn5⟩, ⟨mL6, mK6, mn6⟩, ⟨mL7, mK7, mn7⟩, ⟨mL8, mK8, mn8⟩, ⟨mL9, mK9, mn9⟩, ⟨mL10, mK10, mn10⟩, ⟨mL11, mK11, mn11⟩, ⟨mL13, mK13, mn13⟩⟩ := hMd0
  have hdl : fI (bm 0) 1 = nI (b_nd β) := hM.2.1.1
  have hnd : b_nd β ≤ 250 := hM.2.1.2
  refine Met.ofW (cc := cX3_has) (maxL := 7) (ret := (some .int)) (by decide) rfl ?_
  intro p e s m args below meth c s₁ B hml hv
  obtain ⟨rfl, hPr⟩ := hv
  have hx := B.exec
  have hb := B.bytes
  have hr := B.returns
  have hts := atoms_spec (ws := wsX3_has) B.pre
  have hown : s.vm.findClass RX3 = some m.cls := findClass_of_methodNamed B.named
  have hlocks := B.notSynchronized
  have hin : meth.name = "has" := (name_of_methodNamed B.named B.method).1
  have hK := hPr.2.2
  have hG := hPr.gw
  have hl := lv_entry ([.ref (bm 0), .int v, .int key, .int part]) (n := 7) (Nat.le_of_ble_eq_true rfl)
  rw [lg_entry_eq]
  generalize (lg_sl ([.ref (bm 0), .int v, .int key, .int part]) ++ List.replicate (7 - (lg_sl ([.ref (bm 0), .int v, .int key, .int part])).length) Slot.unset).toArray = ls at hl ⊢
  have hl : lv_has ls 7 [(0, .ref (bm 0)), (1, .int v), (2, .int key), (3, .int part)] := hl
  refine g_start hPr (fun H locs hG => ?_)
  refine lv_aload_n hx hb dX3_has_0 rfl (lv_at hl 0 rfl) ?_
  refine lv_aload_n hx hb dX3_has_1 rfl (lv_at hl 0 rfl) ?_
  refine lv_iload_n hx hb dX3_has_2 rfl (lv_at hl 1 rfl) ?_
  refine g_calli (va_runV (As := [.int v]) (rest := [.ref (bm 0)]) ⟨hx, hb, hml, hown, hts⟩ (k_isReplica l G base (v := v) (a := bm 0)) (cwV 1 hts gX3_has_X3_isReplica rfl rfl rfl (by decide +kernel) ⟨(Nat.le_of_ble_eq_true rfl), (Nat.le_of_ble_eq_true rfl)⟩) (g_pv3 hK hG mL0 mK0) rfl rfl hl.1 rfl (lv_room (Nat.le_of_ble_eq_true rfl)) dX3_has_3 ⟨(Nat.le_of_ble_eq_true rfl), (Nat.le_of_ble_eq_true rfl)⟩) hG (fun y1 b1 H locs hp hG => ?_)
  obtain ⟨e9, h1⟩ := hp
  subst e9
  refine lv_if_eq (tgt := 27) hx hb dX3_has_6 (by decide) (fun c1 => ?_) (fun c1 => ?_)
  · have hno : ¬ (okI v 6 ∧ okI key 16 ∧ okI part 32) := fun z => absurd ((bi_0.mp c1).symm.trans (h1.mpr z.1)) (by decide)
    refine lv_iconst (v := 0) hx hb dX3_has_27 (by decide) ?_
    refine g_calli (va_runV (As := [.int 0]) (rest := []) ⟨hx, hb, hml, hown, hts⟩ (k_goes l G base hM (g := false)) (cwV 1 hts gX3_has_X3_goes rfl rfl rfl (by decide +kernel) ⟨(Nat.le_of_ble_eq_true rfl), (Nat.le_of_ble_eq_true rfl)⟩) (g_pv3 hK hG mL0 mK0) rfl rfl hl.1 rfl (lv_room (Nat.le_of_ble_eq_true rfl)) dX3_has_28 ⟨(Nat.le_of_ble_eq_true rfl), (Nat.le_of_ble_eq_true rfl)⟩) hG (fun y5 _ H locs hp hG => ?_)
    obtain ⟨f1, ef1⟩ : ∃ z, z = g_up fI (bm 0) 0 (bi (!false)) := ⟨_, rfl⟩
    replace hG : gw G base s.heap (L, K, n, rI, rJ, rQ, f1, fR) H locs := by rw [ef1]; exact hG
    have hT1 : StpM (L, K, n, rI, rJ, rQ, fI, fR) bm (L, K, n, rI, rJ, rQ, f1, fR) β := repM_F0 hM (by rw [ef1, g_up_i _ _ _ _ (by decide)]) (fun b hb => by rw [ef1, g_up_other _ _ _ hb])
    have hf1 : f1 (bm 0) 0 = 1 := by rw [ef1, g_up_at]; rfl
    subst hp
    refine lv_if_ne (tgt := 36) hx hb dX3_has_31 (by decide) (fun c8 => ?_) (fun c8 => ?_)
    · exact absurd rfl c8
    · refine lv_iconst (v := 0) hx hb dX3_has_34 (by decide) ?_
      refine W.widen (k := 0) (n := 0) (by omega) (by omega) ?_
      exact W.iret (v := 0) hx hb hr (fun t9 h9 hW9 => ⟨⟨0, (f1, 0), rfl, ⟨Or.inr ⟨hf1, hno⟩, hT1⟩, hG.at h9⟩, hG.2.2.1.F h9⟩) hG.2.2.1.2.2 dX3_has_35
  · obtain ⟨q, hq, rfl⟩ := h1.mp (ts_nf (fun z => c1 (bi_0.mpr z)))
    refine lv_iload_n hx hb dX3_has_9 rfl (lv_at hl 2 rfl) ?_
    refine g_calli (va_runS (As := [.int key]) (rest := [.ref (bm 0)]) ⟨hx, hb, hml, hown, hts⟩ (k_isKey l G base (v := key)) (cwS 1 hts gX3_has_X3_isKey rfl rfl rfl (by decide +kernel) ⟨(Nat.le_of_ble_eq_true rfl), (Nat.le_of_ble_eq_true rfl)⟩) (g_ps hK hG) rfl rfl hl.1 rfl (lv_room (Nat.le_of_ble_eq_true rfl)) dX3_has_10 ⟨(Nat.le_of_ble_eq_true rfl), (Nat.le_of_ble_eq_true rfl)⟩) hG (fun y2 b2 H locs hp hG => ?_)
    obtain ⟨e9, h2⟩ := hp
    subst e9
    refine lv_if_eq (tgt := 27) hx hb dX3_has_13 (by decide) (fun c2 => ?_) (fun c2 => ?_)
    · have hno : ¬ (okI (nI q) 6 ∧ okI key 16 ∧ okI part 32) := fun z => absurd ((bi_0.mp c2).symm.trans (h2.mpr z.2.1)) (by decide)
      refine lv_iconst (v := 0) hx hb dX3_has_27 (by decide) ?_
      refine g_calli (va_runV (As := [.int 0]) (rest := []) ⟨hx, hb, hml, hown, hts⟩ (k_goes l G base hM (g := false)) (cwV 1 hts gX3_has_X3_goes rfl rfl rfl (by decide +kernel) ⟨(Nat.le_of_ble_eq_true rfl), (Nat.le_of_ble_eq_true rfl)⟩) (g_pv3 hK hG mL0 mK0) rfl rfl hl.1 rfl (lv_room (Nat.le_of_ble_eq_true rfl)) dX3_has_28 ⟨(Nat.le_of_ble_eq_true rfl), (Nat.le_of_ble_eq_true rfl)⟩) hG (fun y5 _ H locs hp hG => ?_)
      obtain ⟨f1, ef1⟩ : ∃ z, z = g_up fI (bm 0) 0 (bi (!false)) := ⟨_, rfl⟩
      replace hG : gw G base s.heap (L, K, n, rI, rJ, rQ, f1, fR) H locs := by rw [ef1]; exact hG
      have hT1 : StpM (L, K, n, rI, rJ, rQ, fI, fR) bm (L, K, n, rI, rJ, rQ, f1, fR) β := repM_F0 hM (by rw [ef1, g_up_i _ _ _ _ (by decide)]) (fun b hb => by rw [ef1, g_up_other _ _ _ hb])
      have hf1 : f1 (bm 0) 0 = 1 := by rw [ef1, g_up_at]; rfl
      subst hp
      refine lv_if_ne (tgt := 36) hx hb dX3_has_31 (by decide) (fun c8 => ?_) (fun c8 => ?_)
      · exact absurd rfl c8
      · refine lv_iconst (v := 0) hx hb dX3_has_34 (by decide) ?_
        refine W.widen (k := 0) (n := 0) (by omega) (by omega) ?_
        exact W.iret (v := 0) hx hb hr (fun t9 h9 hW9 => ⟨⟨0, (f1, 0), rfl, ⟨Or.inr ⟨hf1, hno⟩, hT1⟩, hG.at h9⟩, hG.2.2.1.F h9⟩) hG.2.2.1.2.2 dX3_has_35
    · have hkey := h2.mp (ts_nf (fun z => c2 (bi_0.mpr z)))
      refine lv_iload_n hx hb dX3_has_16 rfl (lv_at hl 3 rfl) ?_
      refine g_calli (va_runS (As := [.int part]) (rest := [.ref (bm 0)]) ⟨hx, hb, hml, hown, hts⟩ (k_isElement l G base (v := part)) (cwS 1 hts gX3_has_X3_isElement rfl rfl rfl (by decide +kernel) ⟨(Nat.le_of_ble_eq_true rfl), (Nat.le_of_ble_eq_true rfl)⟩) (g_ps hK hG) rfl rfl hl.1 rfl (lv_room (Nat.le_of_ble_eq_true rfl)) dX3_has_17 ⟨(Nat.le_of_ble_eq_true rfl), (Nat.le_of_ble_eq_true rfl)⟩) hG (fun y3 b3 H locs hp hG => ?_)
      obtain ⟨e9, h3⟩ := hp
      subst e9
      refine lv_if_eq (tgt := 27) hx hb dX3_has_20 (by decide) (fun c3 => ?_) (fun c3 => ?_)
      · have hno : ¬ (okI (nI q) 6 ∧ okI key 16 ∧ okI part 32) := fun z => absurd ((bi_0.mp c3).symm.trans (h3.mpr z.2.2)) (by decide)
        refine lv_iconst (v := 0) hx hb dX3_has_27 (by decide) ?_
        refine g_calli (va_runV (As := [.int 0]) (rest := []) ⟨hx, hb, hml, hown, hts⟩ (k_goes l G base hM (g := false)) (cwV 1 hts gX3_has_X3_goes rfl rfl rfl (by decide +kernel) ⟨(Nat.le_of_ble_eq_true rfl), (Nat.le_of_ble_eq_true rfl)⟩) (g_pv3 hK hG mL0 mK0) rfl rfl hl.1 rfl (lv_room (Nat.le_of_ble_eq_true rfl)) dX3_has_28 ⟨(Nat.le_of_ble_eq_true rfl), (Nat.le_of_ble_eq_true rfl)⟩) hG (fun y5 _ H locs hp hG => ?_)
        obtain ⟨f1, ef1⟩ : ∃ z, z = g_up fI (bm 0) 0 (bi (!false)) := ⟨_, rfl⟩
        replace hG : gw G base s.heap (L, K, n, rI, rJ, rQ, f1, fR) H locs := by rw [ef1]; exact hG
        have hT1 : StpM (L, K, n, rI, rJ, rQ, fI, fR) bm (L, K, n, rI, rJ, rQ, f1, fR) β := repM_F0 hM (by rw [ef1, g_up_i _ _ _ _ (by decide)]) (fun b hb => by rw [ef1, g_up_other _ _ _ hb])
        have hf1 : f1 (bm 0) 0 = 1 := by rw [ef1, g_up_at]; rfl
        subst hp
        refine lv_if_ne (tgt := 36) hx hb dX3_has_31 (by decide) (fun c8 => ?_) (fun c8 => ?_)
        · exact absurd rfl c8
        · refine lv_iconst (v := 0) hx hb dX3_has_34 (by decide) ?_
          refine W.widen (k := 0) (n := 0) (by omega) (by omega) ?_
          exact W.iret (v := 0) hx hb hr (fun t9 h9 hW9 => ⟨⟨0, (f1, 0), rfl, ⟨Or.inr ⟨hf1, hno⟩, hT1⟩, hG.at h9⟩, hG.2.2.1.F h9⟩) hG.2.2.1.2.2 dX3_has_35
      · have hprt := h3.mp (ts_nf (fun z => c3 (bi_0.mpr z)))
        refine lv_iconst (v := 1) hx hb dX3_has_23 (by decide) ?_
        refine lv_goto (tgt := 28) hx hb dX3_has_24 (by decide) ?_
        refine g_calli (va_runV (As := [.int 1]) (rest := []) ⟨hx, hb, hml, hown, hts⟩ (k_goes l G base hM (g := true)) (cwV 1 hts gX3_has_X3_goes rfl rfl rfl (by decide +kernel) ⟨(Nat.le_of_ble_eq_true rfl), (Nat.le_of_ble_eq_true rfl)⟩) (g_pv3 hK hG mL0 mK0) rfl rfl hl.1 rfl (lv_room (Nat.le_of_ble_eq_true rfl)) dX3_has_28 ⟨(Nat.le_of_ble_eq_true rfl), (Nat.le_of_ble_eq_true rfl)⟩) hG (fun y5 _ H locs hp hG => ?_)
        obtain ⟨f1, ef1⟩ : ∃ z, z = g_up fI (bm 0) 0 (bi (!true)) := ⟨_, rfl⟩
        replace hG : gw G base s.heap (L, K, n, rI, rJ, rQ, f1, fR) H locs := by rw [ef1]; exact hG
        have hT1 : StpM (L, K, n, rI, rJ, rQ, fI, fR) bm (L, K, n, rI, rJ, rQ, f1, fR) β := repM_F0 hM (by rw [ef1, g_up_i _ _ _ _ (by decide)]) (fun b hb => by rw [ef1, g_up_other _ _ _ hb])
        have hf1 : f1 (bm 0) 0 = 0 := by rw [ef1, g_up_at]; rfl
        subst hp
        refine lv_if_ne (tgt := 36) hx hb dX3_has_31 (by decide) (fun c8 => ?_) (fun c8 => ?_)
        · refine lv_iconst (v := 0) hx hb dX3_has_36 (by decide) ?_
          refine lv_istore (lv' := [(4, .int 0), (0, .ref (bm 0)), (1, .int (nI q)), (2, .int key), (3, .int part)]) hx hb dX3_has_37 hl (by decide) rfl (fun ls hl => ?_)
          obtain ⟨w, ew⟩ : ∃ z : Nat, z = 0 := ⟨_, rfl⟩
          replace hl : lv_has ls 7 [(0, .ref (bm 0)), (1, .int (nI q)), (2, .int key), (3, .int part), (4, .int (nI w))] := by subst ew; exact (lv_sub hl [1, 2, 3, 4, 0] rfl)
          have inv : w ≤ 6 ∧ anyN (livB β q key part (-1)) (100 * w) = false := by
            subst ew
            exact ⟨by omega, rfl⟩
          have hf : 6 < w + 7 := by omega
          clear ew
          generalize 7 = d at hf
          induction d generalizing w H locs ls with
          | zero => exact absurd hf (by have := inv.1; omega)
          | succ d ih =>
            refine lv_iload hx hb dX3_has_39 (lv_at hl 4 rfl) ?_
            refine lv_bipush (v := 6) hx hb dX3_has_41 (by decide) ?_
            refine lv_icmp_ge (tgt := 116) hx hb dX3_has_43 (by decide) (fun c0 => ?_) (fun c0 => ?_)
            · have hw : w = 6 := by
                rcases Nat.lt_or_ge w 6 with q | q
                · exact absurd c0 (nI_ge q (by decide))
                · omega
              subst hw
              refine lv_iconst (v := 0) hx hb dX3_has_116 (by decide) ?_
              refine W.widen (k := 0) (n := 0) (by omega) (by omega) ?_
              exact W.iret (v := 0) hx hb hr (fun t9 h9 hW9 => ⟨⟨0, (f1, q), rfl, ⟨Or.inl ⟨hf1, ⟨hq, rfl⟩, hkey, hprt, by rw [inv.2]; rfl⟩, hT1⟩, hG.at h9⟩, hG.2.2.1.F h9⟩) hG.2.2.1.2.2 dX3_has_117
            · have hw : w < 6 := by
                rcases Nat.lt_or_ge w 6 with q | q
                · exact q
                · exact absurd (nI_le (a := 6) q (by omega)) c0
              refine lv_iconst (v := 1) hx hb dX3_has_46 (by decide) ?_
              refine lv_istore (lv' := [(5, .int 1), (0, .ref (bm 0)), (1, .int (nI q)), (2, .int key), (3, .int part), (4, .int (nI w))]) hx hb dX3_has_47 hl (by decide) rfl (fun ls hl => ?_)
              have hf0 := hf
              clear hf
              obtain ⟨vv, evv⟩ : ∃ z : Nat, z = 0 := ⟨_, rfl⟩
              replace hl : lv_has ls 7 [(0, .ref (bm 0)), (1, .int (nI q)), (2, .int key), (3, .int part), (4, .int (nI w)), (5, .int (nI (vv + 1)))] := by subst evv; exact (lv_sub hl [1, 2, 3, 4, 5, 0] rfl)
              have inv2 : vv ≤ 100 ∧ anyN (livB β q key part (-1)) (100 * w + vv) = false := by
                subst evv
                exact ⟨by omega, inv.2⟩
              have hf : 100 < vv + 101 := by omega
              clear evv
              generalize 101 = d2 at hf
              induction d2 generalizing vv H locs ls with
              | zero => exact absurd hf (by have := inv2.1; omega)
              | succ d2 ih2 =>
                refine lv_iload hx hb dX3_has_49 (lv_at hl 5 rfl) ?_
                refine lv_bipush (v := 100) hx hb dX3_has_51 (by decide) ?_
                refine lv_icmp_gt (tgt := 110) hx hb dX3_has_53 (by decide) (fun cg => ?_) (fun cg => ?_)
                · have hvv : vv = 100 := by
                    have := (nI_ltI (a := 100) (b := vv + 1) (by decide) (by have := inv2.1; omega)).mp cg
                    have := inv2.1
                    omega
                  subst hvv
                  refine lv_iinc (v := (nI (w + 1))) (lv' := [(4, .int (nI (w + 1))), (0, .ref (bm 0)), (1, .int (nI q)), (2, .int key), (3, .int part), (5, .int (nI (100 + 1)))]) hx hb dX3_has_110 hl (k := 4) rfl (nI_1 w) (by decide) rfl (fun ls hl => ?_)
                  refine lv_goto (tgt := 39) hx hb dX3_has_113 (by decide) ?_
                  exact ih (w := w + 1) (hl := (lv_sub hl [1, 2, 3, 4, 0] rfl)) (hG := hG) (inv := (by have z9 := inv2.2; rw [show 100 * w + 100 = 100 * (w + 1) by omega] at z9; exact ⟨by omega, z9⟩)) (hf := by omega)
                · have hvv : vv < 100 := by
                    rcases Nat.lt_or_ge vv 100 with z | z
                    · exact z
                    · exact absurd ((nI_ltI (a := 100) (b := vv + 1) (by decide) (by have := inv2.1; omega)).mpr (by omega)) cg
                  refine lv_iload hx hb dX3_has_56 (lv_at hl 4 rfl) ?_
                  refine lv_iload hx hb dX3_has_58 (lv_at hl 5 rfl) ?_
                  refine g_calli (va_runS (As := [.int (nI w), .int (nI (vv + 1))]) (rest := []) ⟨hx, hb, hml, hown, hts⟩ (k_dot l G base (q := w) (m1 := vv + 1)) (cwS 2 hts gX3_has_X3_dot rfl rfl rfl (by decide +kernel) ⟨(Nat.le_of_ble_eq_true rfl), (Nat.le_of_ble_eq_true rfl)⟩) (g_ps hK hG) rfl rfl hl.1 rfl (lv_room (Nat.le_of_ble_eq_true rfl)) dX3_has_60 ⟨(Nat.le_of_ble_eq_true rfl), (Nat.le_of_ble_eq_true rfl)⟩) hG (fun y0 _ H locs hp hG => ?_)
                  subst hp
                  refine lv_istore (lv' := [(6, .int (nI (101 * w + (vv + 1)))), (0, .ref (bm 0)), (1, .int (nI q)), (2, .int key), (3, .int part), (4, .int (nI w)), (5, .int (nI (vv + 1)))]) hx hb dX3_has_63 hl (by decide) rfl (fun ls hl => ?_)
                  refine lv_aload_n hx hb dX3_has_65 rfl (lv_at hl 1 rfl) ?_
                  refine r_Model_live hx hb hts (by decide +kernel) hown hK hG mL0 mK0 mf3 (hts (.fieldLink RX3 13 "DotStoresModel" "live" "[J") (by decide +kernel)) dX3_has_66 ?_
                  refine lv_iload_n hx hb dX3_has_69 rfl (lv_at hl 2 rfl) ?_
                  refine lv_iload hx hb dX3_has_70 (lv_at hl 5 rfl) ?_
                  refine lv_iload hx hb dX3_has_72 (lv_at hl 6 rfl) ?_
                  refine g_calli (va_runS (As := [.ref (bm 3), .int (nI q), .int (nI w), .int (nI (vv + 1))]) (rest := []) ⟨hx, hb, hml, hown, hts⟩ (k_isSet l G base (k := q) (q := w) (pp := vv) mL3 mK3 mn3 (show q < 257 by omega) (by omega) (by omega)) (cwS 4 hts gX3_has_X3_isSet rfl rfl rfl (by decide +kernel) ⟨(Nat.le_of_ble_eq_true rfl), (Nat.le_of_ble_eq_true rfl)⟩) (g_ps hK hG) rfl rfl hl.1 rfl (lv_room (Nat.le_of_ble_eq_true rfl)) dX3_has_74 ⟨(Nat.le_of_ble_eq_true rfl), (Nat.le_of_ble_eq_true rfl)⟩) hG (fun y1 _ H locs hp hG => ?_)
                  have hp : y1 = bi (b_L β q (128 * w + vv)) := by
                    rw [hp]
                    exact congrArg bi (repM_L hM (show q < 257 by omega) (by omega) (by omega))
                  subst hp
                  refine lv_if_eq (tgt := 104) hx hb dX3_has_77 (by decide) (fun d1 => ?_) (fun d1 => ?_)
                  · have d1 := bi_0.mp d1
                    have hlv : livB β q key part (-1) (100 * w + vv) = false := by rw [livB_at hvv]; simp [d1]
                    refine lv_iinc (v := (nI (vv + 1 + 1))) (lv' := [(5, .int (nI (vv + 1 + 1))), (6, .int (nI (101 * w + (vv + 1)))), (0, .ref (bm 0)), (1, .int (nI q)), (2, .int key), (3, .int part), (4, .int (nI w))]) hx hb dX3_has_104 hl (k := 6) rfl (nI_1 (vv + 1)) (by decide) rfl (fun ls hl => ?_)
                    refine lv_goto (tgt := 49) hx hb dX3_has_107 (by decide) ?_
                    exact ih2 (vv := vv + 1) (hl := (lv_sub hl [2, 3, 4, 5, 6, 0] rfl)) (hG := hG) (inv2 := ⟨by omega, by rw [show 100 * w + (vv + 1) = 100 * w + vv + 1 from rfl]; rw [anyN_s, inv2.2, hlv]; rfl⟩) (hf := by omega)
                  · have d1 := ts_nf (fun z => d1 (bi_0.mpr z))
                    refine lv_aload_n hx hb dX3_has_80 rfl (lv_at hl 1 rfl) ?_
                    refine r_Model_dotKey hx hb hts (by decide +kernel) hown hK hG mL0 mK0 mf9 (hts (.fieldLink RX3 33 "DotStoresModel" "dotKey" "[I") (by decide +kernel)) dX3_has_81 ?_
                    refine lv_iload hx hb dX3_has_84 (lv_at hl 0 rfl) ?_
                    refine g_iald hx hb hK hG mL9 mK9 (101 * w + (vv + 1)) rfl (by rw [mn9]; omega) (by rw [mn9]; decide) dX3_has_86 ?_
                    refine lv_topi (fun z1 ez1 => ?_)
                    obtain rfl : z1 = b_key β (101 * w + (vv + 1)) := ez1.trans ((hM.2.2.2.2.2 _ (by omega)).1)
                    refine lv_iload_n hx hb dX3_has_87 rfl (lv_at hl 3 rfl) ?_
                    refine lv_icmp_ne (tgt := 104) hx hb dX3_has_88 (by decide) (fun d2 => ?_) (fun d2 => ?_)
                    · have hlv : livB β q key part (-1) (100 * w + vv) = false := by rw [livB_at hvv]; simp [d2]
                      refine lv_iinc (v := (nI (vv + 1 + 1))) (lv' := [(5, .int (nI (vv + 1 + 1))), (6, .int (nI (101 * w + (vv + 1)))), (0, .ref (bm 0)), (1, .int (nI q)), (2, .int key), (3, .int part), (4, .int (nI w))]) hx hb dX3_has_104 hl (k := 6) rfl (nI_1 (vv + 1)) (by decide) rfl (fun ls hl => ?_)
                      refine lv_goto (tgt := 49) hx hb dX3_has_107 (by decide) ?_
                      exact ih2 (vv := vv + 1) (hl := (lv_sub hl [2, 3, 4, 5, 6, 0] rfl)) (hG := hG) (inv2 := ⟨by omega, by rw [show 100 * w + (vv + 1) = 100 * w + vv + 1 from rfl]; rw [anyN_s, inv2.2, hlv]; rfl⟩) (hf := by omega)
                    · have d2 := (by first | exact d2 | exact Classical.not_not.mp d2)
                      refine lv_aload_n hx hb dX3_has_91 rfl (lv_at hl 1 rfl) ?_
                      refine r_Model_dotPart hx hb hts (by decide +kernel) hown hK hG mL0 mK0 mf10 (hts (.fieldLink RX3 36 "DotStoresModel" "dotPart" "[I") (by decide +kernel)) dX3_has_92 ?_
                      refine lv_iload hx hb dX3_has_95 (lv_at hl 0 rfl) ?_
                      refine g_iald hx hb hK hG mL10 mK10 (101 * w + (vv + 1)) rfl (by rw [mn10]; omega) (by rw [mn10]; decide) dX3_has_97 ?_
                      refine lv_topi (fun z2 ez2 => ?_)
                      obtain rfl : z2 = b_part β (101 * w + (vv + 1)) := ez2.trans ((hM.2.2.2.2.2 _ (by omega)).2.1)
                      refine lv_iload_n hx hb dX3_has_98 rfl (lv_at hl 4 rfl) ?_
                      refine lv_icmp_ne (tgt := 104) hx hb dX3_has_99 (by decide) (fun d3 => ?_) (fun d3 => ?_)
                      · have hlv : livB β q key part (-1) (100 * w + vv) = false := by rw [livB_at hvv]; simp [okI_n1 (by decide) hprt, d3]
                        refine lv_iinc (v := (nI (vv + 1 + 1))) (lv' := [(5, .int (nI (vv + 1 + 1))), (6, .int (nI (101 * w + (vv + 1)))), (0, .ref (bm 0)), (1, .int (nI q)), (2, .int key), (3, .int part), (4, .int (nI w))]) hx hb dX3_has_104 hl (k := 6) rfl (nI_1 (vv + 1)) (by decide) rfl (fun ls hl => ?_)
                        refine lv_goto (tgt := 49) hx hb dX3_has_107 (by decide) ?_
                        exact ih2 (vv := vv + 1) (hl := (lv_sub hl [2, 3, 4, 5, 6, 0] rfl)) (hG := hG) (inv2 := ⟨by omega, by rw [show 100 * w + (vv + 1) = 100 * w + vv + 1 from rfl]; rw [anyN_s, inv2.2, hlv]; rfl⟩) (hf := by omega)
                      · have d3 := (by first | exact d3 | exact Classical.not_not.mp d3)
                        have hlv : livB β q key part (-1) (100 * w + vv) = true := by rw [livB_at hvv, d1, decide_eq_true ⟨d2, Or.inr d3, Or.inl rfl⟩]; rfl
                        refine lv_iconst (v := 1) hx hb dX3_has_102 (by decide) ?_
                        refine W.widen (k := 0) (n := 0) (by omega) (by omega) ?_
                        exact W.iret (v := 1) hx hb hr (fun t9 h9 hW9 => ⟨⟨1, (f1, q), rfl, ⟨Or.inl ⟨hf1, ⟨hq, rfl⟩, hkey, hprt, by rw [anyN_ge hlv (by omega)]; rfl⟩, hT1⟩, hG.at h9⟩, hG.2.2.1.F h9⟩) hG.2.2.1.2.2 dX3_has_103
        · exact absurd c8 (by decide)
set_option maxHeartbeats 4000000 in
set_option maxRecDepth 100000 in
/-- sum -/
theorem k_sum (l : Launch) (G : gG) (base : Nat) {L : List Nat} {K n : Nat → Nat} {rI : Nat → Nat → Int32} {rJ : Nat → Nat → Int64} {rQ : Nat → Nat → Option Nat} {fI : Nat → Nat → Int32} {fR : Nat → Nat → Option Nat} {bm : Nat → Nat} {β : bT} (hM : RepM (L, K, n, rI, rJ, rQ, fI, fR) bm β) {v key : Int32} : Met l yX3_sum wsX3_sum ({ frames := 2, cells := 0, slots := 0, locals := 43 }) (va_Pc [.ref (bm 0), .int v, .int key] (g_Pr G base (L, K, n, rI, rJ, rQ, fI, fR))) (g_Ql G base (fun u : (Nat → Nat → Int32) × Nat => (L, K, n, rI, rJ, rQ, u.1, fR)) (fun x u => ((u.1 (bm 0) 0 = 0 ∧ (u.2 < 6 ∧ v = nI u.2) ∧ okI key 16 ∧ x = sumN (livB β u.2 key (-1) (-1)) (valB β) 600) ∨ (u.1 (bm 0) 0 = 1 ∧ ¬ (okI v 6 ∧ okI key 16))) ∧ StpM (L, K, n, rI, rJ, rQ, fI, fR) bm (L, K, n, rI, rJ, rQ, u.1, fR) β)) 0 0 (g_A base) := by
  have hMd : isMd L K n fR bm := hM.1
  have hMd0 := hMd
  obtain ⟨minj, mL0, mK0, ⟨mf2, mf3, mf4, mf5, mf6, mf7, mf8, mf9, mf10, mf11, mf13⟩, ⟨mL2, mK2, mn2⟩, ⟨mL3, mK3, mn3⟩, ⟨mL4, mK4, mn4⟩, ⟨mL5, mK5, mn5⟩, ⟨mL6, mK6, mn6⟩, ⟨mL7, mK7, mn7⟩, ⟨mL8, mK8, mn8⟩, ⟨mL9, mK9, mn9⟩, ⟨mL10, mK10, mn10⟩, ⟨mL11, mK11, mn11⟩, ⟨mL13, mK13, mn13⟩⟩ := hMd0
  have hdl : fI (bm 0) 1 = nI (b_nd β) := hM.2.1.1
  have hnd : b_nd β ≤ 250 := hM.2.1.2
  refine Met.ofW (cc := cX3_sum) (maxL := 8) (ret := (some .long)) (by decide) rfl ?_
  intro p e s m args below meth c s₁ B hml hv
  obtain ⟨rfl, hPr⟩ := hv
  have hx := B.exec
  have hb := B.bytes
  have hr := B.returns
  have hts := atoms_spec (ws := wsX3_sum) B.pre
  have hown : s.vm.findClass RX3 = some m.cls := findClass_of_methodNamed B.named
  have hlocks := B.notSynchronized
  have hin : meth.name = "sum" := (name_of_methodNamed B.named B.method).1
  have hK := hPr.2.2
  have hG := hPr.gw
  have hl := lv_entry ([.ref (bm 0), .int v, .int key]) (n := 8) (Nat.le_of_ble_eq_true rfl)
  rw [lg_entry_eq]
  generalize (lg_sl ([.ref (bm 0), .int v, .int key]) ++ List.replicate (8 - (lg_sl ([.ref (bm 0), .int v, .int key])).length) Slot.unset).toArray = ls at hl ⊢
  have hl : lv_has ls 8 [(0, .ref (bm 0)), (1, .int v), (2, .int key)] := hl
  refine g_start hPr (fun H locs hG => ?_)
  refine lv_lconst (v := 0) hx hb dX3_sum_0 (by decide) ?_
  refine lv_lstore_n (lv' := [(3, .long 0), (0, .ref (bm 0)), (1, .int v), (2, .int key)]) hx hb dX3_sum_1 rfl hl (by decide) rfl (fun ls hl => ?_)
  refine lv_aload_n hx hb dX3_sum_2 rfl (lv_at hl 1 rfl) ?_
  refine lv_aload_n hx hb dX3_sum_3 rfl (lv_at hl 1 rfl) ?_
  refine lv_iload_n hx hb dX3_sum_4 rfl (lv_at hl 2 rfl) ?_
  refine g_calli (va_runV (As := [.int v]) (rest := [.ref (bm 0)]) ⟨hx, hb, hml, hown, hts⟩ (k_isReplica l G base (v := v) (a := bm 0)) (cwV 1 hts gX3_sum_X3_isReplica rfl rfl rfl (by decide +kernel) ⟨(Nat.le_of_ble_eq_true rfl), (Nat.le_of_ble_eq_true rfl)⟩) (g_pv3 hK hG mL0 mK0) rfl rfl hl.1 rfl (lv_room (Nat.le_of_ble_eq_true rfl)) dX3_sum_5 ⟨(Nat.le_of_ble_eq_true rfl), (Nat.le_of_ble_eq_true rfl)⟩) hG (fun y1 b1 H locs hp hG => ?_)
  obtain ⟨e9, h1⟩ := hp
  subst e9
  refine lv_if_eq (tgt := 22) hx hb dX3_sum_8 (by decide) (fun c1 => ?_) (fun c1 => ?_)
  · have hno : ¬ (okI v 6 ∧ okI key 16) := fun z => absurd ((bi_0.mp c1).symm.trans (h1.mpr z.1)) (by decide)
    refine lv_iconst (v := 0) hx hb dX3_sum_22 (by decide) ?_
    refine g_calli (va_runV (As := [.int 0]) (rest := []) ⟨hx, hb, hml, hown, hts⟩ (k_goes l G base hM (g := false)) (cwV 1 hts gX3_sum_X3_goes rfl rfl rfl (by decide +kernel) ⟨(Nat.le_of_ble_eq_true rfl), (Nat.le_of_ble_eq_true rfl)⟩) (g_pv3 hK hG mL0 mK0) rfl rfl hl.1 rfl (lv_room (Nat.le_of_ble_eq_true rfl)) dX3_sum_23 ⟨(Nat.le_of_ble_eq_true rfl), (Nat.le_of_ble_eq_true rfl)⟩) hG (fun y5 _ H locs hp hG => ?_)
    obtain ⟨f1, ef1⟩ : ∃ z, z = g_up fI (bm 0) 0 (bi (!false)) := ⟨_, rfl⟩
    replace hG : gw G base s.heap (L, K, n, rI, rJ, rQ, f1, fR) H locs := by rw [ef1]; exact hG
    have hT1 : StpM (L, K, n, rI, rJ, rQ, fI, fR) bm (L, K, n, rI, rJ, rQ, f1, fR) β := repM_F0 hM (by rw [ef1, g_up_i _ _ _ _ (by decide)]) (fun b hb => by rw [ef1, g_up_other _ _ _ hb])
    have hf1 : f1 (bm 0) 0 = 1 := by rw [ef1, g_up_at]; rfl
    subst hp
    refine lv_if_ne (tgt := 31) hx hb dX3_sum_26 (by decide) (fun c8 => ?_) (fun c8 => ?_)
    · exact absurd rfl c8
    · refine lv_lload_n hx hb dX3_sum_29 rfl (lv_at hl 0 rfl) ?_
      refine W.widen (k := 0) (n := 0) (by omega) (by omega) ?_
      exact W.lret (v := 0) hx hb hr (fun t9 h9 hW9 => ⟨⟨0, (f1, 0), rfl, ⟨Or.inr ⟨hf1, hno⟩, hT1⟩, hG.at h9⟩, hG.2.2.1.F h9⟩) hG.2.2.1.2.2 dX3_sum_30
  · obtain ⟨q, hq, rfl⟩ := h1.mp (ts_nf (fun z => c1 (bi_0.mpr z)))
    refine lv_iload_n hx hb dX3_sum_11 rfl (lv_at hl 3 rfl) ?_
    refine g_calli (va_runS (As := [.int key]) (rest := [.ref (bm 0)]) ⟨hx, hb, hml, hown, hts⟩ (k_isKey l G base (v := key)) (cwS 1 hts gX3_sum_X3_isKey rfl rfl rfl (by decide +kernel) ⟨(Nat.le_of_ble_eq_true rfl), (Nat.le_of_ble_eq_true rfl)⟩) (g_ps hK hG) rfl rfl hl.1 rfl (lv_room (Nat.le_of_ble_eq_true rfl)) dX3_sum_12 ⟨(Nat.le_of_ble_eq_true rfl), (Nat.le_of_ble_eq_true rfl)⟩) hG (fun y2 b2 H locs hp hG => ?_)
    obtain ⟨e9, h2⟩ := hp
    subst e9
    refine lv_if_eq (tgt := 22) hx hb dX3_sum_15 (by decide) (fun c2 => ?_) (fun c2 => ?_)
    · have hno : ¬ (okI (nI q) 6 ∧ okI key 16) := fun z => absurd ((bi_0.mp c2).symm.trans (h2.mpr z.2)) (by decide)
      refine lv_iconst (v := 0) hx hb dX3_sum_22 (by decide) ?_
      refine g_calli (va_runV (As := [.int 0]) (rest := []) ⟨hx, hb, hml, hown, hts⟩ (k_goes l G base hM (g := false)) (cwV 1 hts gX3_sum_X3_goes rfl rfl rfl (by decide +kernel) ⟨(Nat.le_of_ble_eq_true rfl), (Nat.le_of_ble_eq_true rfl)⟩) (g_pv3 hK hG mL0 mK0) rfl rfl hl.1 rfl (lv_room (Nat.le_of_ble_eq_true rfl)) dX3_sum_23 ⟨(Nat.le_of_ble_eq_true rfl), (Nat.le_of_ble_eq_true rfl)⟩) hG (fun y5 _ H locs hp hG => ?_)
      obtain ⟨f1, ef1⟩ : ∃ z, z = g_up fI (bm 0) 0 (bi (!false)) := ⟨_, rfl⟩
      replace hG : gw G base s.heap (L, K, n, rI, rJ, rQ, f1, fR) H locs := by rw [ef1]; exact hG
      have hT1 : StpM (L, K, n, rI, rJ, rQ, fI, fR) bm (L, K, n, rI, rJ, rQ, f1, fR) β := repM_F0 hM (by rw [ef1, g_up_i _ _ _ _ (by decide)]) (fun b hb => by rw [ef1, g_up_other _ _ _ hb])
      have hf1 : f1 (bm 0) 0 = 1 := by rw [ef1, g_up_at]; rfl
      subst hp
      refine lv_if_ne (tgt := 31) hx hb dX3_sum_26 (by decide) (fun c8 => ?_) (fun c8 => ?_)
      · exact absurd rfl c8
      · refine lv_lload_n hx hb dX3_sum_29 rfl (lv_at hl 0 rfl) ?_
        refine W.widen (k := 0) (n := 0) (by omega) (by omega) ?_
        exact W.lret (v := 0) hx hb hr (fun t9 h9 hW9 => ⟨⟨0, (f1, 0), rfl, ⟨Or.inr ⟨hf1, hno⟩, hT1⟩, hG.at h9⟩, hG.2.2.1.F h9⟩) hG.2.2.1.2.2 dX3_sum_30
    · have hkey := h2.mp (ts_nf (fun z => c2 (bi_0.mpr z)))
      refine lv_iconst (v := 1) hx hb dX3_sum_18 (by decide) ?_
      refine lv_goto (tgt := 23) hx hb dX3_sum_19 (by decide) ?_
      refine g_calli (va_runV (As := [.int 1]) (rest := []) ⟨hx, hb, hml, hown, hts⟩ (k_goes l G base hM (g := true)) (cwV 1 hts gX3_sum_X3_goes rfl rfl rfl (by decide +kernel) ⟨(Nat.le_of_ble_eq_true rfl), (Nat.le_of_ble_eq_true rfl)⟩) (g_pv3 hK hG mL0 mK0) rfl rfl hl.1 rfl (lv_room (Nat.le_of_ble_eq_true rfl)) dX3_sum_23 ⟨(Nat.le_of_ble_eq_true rfl), (Nat.le_of_ble_eq_true rfl)⟩) hG (fun y5 _ H locs hp hG => ?_)
      obtain ⟨f1, ef1⟩ : ∃ z, z = g_up fI (bm 0) 0 (bi (!true)) := ⟨_, rfl⟩
      replace hG : gw G base s.heap (L, K, n, rI, rJ, rQ, f1, fR) H locs := by rw [ef1]; exact hG
      have hT1 : StpM (L, K, n, rI, rJ, rQ, fI, fR) bm (L, K, n, rI, rJ, rQ, f1, fR) β := repM_F0 hM (by rw [ef1, g_up_i _ _ _ _ (by decide)]) (fun b hb => by rw [ef1, g_up_other _ _ _ hb])
      have hf1 : f1 (bm 0) 0 = 0 := by rw [ef1, g_up_at]; rfl
      subst hp
      refine lv_if_ne (tgt := 31) hx hb dX3_sum_26 (by decide) (fun c8 => ?_) (fun c8 => ?_)
      · refine lv_iconst (v := 0) hx hb dX3_sum_31 (by decide) ?_
        refine lv_istore (lv' := [(5, .int 0), (3, .long 0), (0, .ref (bm 0)), (1, .int (nI q)), (2, .int key)]) hx hb dX3_sum_32 hl (by decide) rfl (fun ls hl => ?_)
        obtain ⟨w, ew⟩ : ∃ z : Nat, z = 0 := ⟨_, rfl⟩
        obtain ⟨tot, etot⟩ : ∃ z : Int64, z = 0 := ⟨_, rfl⟩
        replace hl : lv_has ls 8 [(0, .ref (bm 0)), (1, .int (nI q)), (2, .int key), (3, .long tot), (5, .int (nI w))] := by subst ew etot; exact (lv_sub hl [2, 3, 4, 1, 0] rfl)
        have inv : w ≤ 6 ∧ tot = sumN (livB β q key (-1) (-1)) (valB β) (100 * w) := by
          subst ew etot
          exact ⟨by omega, rfl⟩
        have hf : 6 < w + 7 := by omega
        clear ew etot
        generalize 7 = d at hf
        induction d generalizing w tot H locs ls with
        | zero => exact absurd hf (by have := inv.1; omega)
        | succ d ih =>
          refine lv_iload hx hb dX3_sum_34 (lv_at hl 4 rfl) ?_
          refine lv_bipush (v := 6) hx hb dX3_sum_36 (by decide) ?_
          refine lv_icmp_ge (tgt := 112) hx hb dX3_sum_38 (by decide) (fun c0 => ?_) (fun c0 => ?_)
          · have hw : w = 6 := by
              rcases Nat.lt_or_ge w 6 with q | q
              · exact absurd c0 (nI_ge q (by decide))
              · omega
            subst hw
            refine lv_lload_n hx hb dX3_sum_112 rfl (lv_at hl 3 rfl) ?_
            refine W.widen (k := 0) (n := 0) (by omega) (by omega) ?_
            exact W.lret (v := tot) hx hb hr (fun t9 h9 hW9 => ⟨⟨tot, (f1, q), rfl, ⟨Or.inl ⟨hf1, ⟨hq, rfl⟩, hkey, inv.2⟩, hT1⟩, hG.at h9⟩, hG.2.2.1.F h9⟩) hG.2.2.1.2.2 dX3_sum_113
          · have hw : w < 6 := by
              rcases Nat.lt_or_ge w 6 with q | q
              · exact q
              · exact absurd (nI_le (a := 6) q (by omega)) c0
            refine lv_iconst (v := 1) hx hb dX3_sum_41 (by decide) ?_
            refine lv_istore (lv' := [(6, .int 1), (0, .ref (bm 0)), (1, .int (nI q)), (2, .int key), (3, .long tot), (5, .int (nI w))]) hx hb dX3_sum_42 hl (by decide) rfl (fun ls hl => ?_)
            have hf0 := hf
            clear hf
            obtain ⟨vv, evv⟩ : ∃ z : Nat, z = 0 := ⟨_, rfl⟩
            obtain ⟨tot2, etot2⟩ : ∃ z : Int64, z = tot := ⟨_, rfl⟩
            replace hl : lv_has ls 8 [(0, .ref (bm 0)), (1, .int (nI q)), (2, .int key), (3, .long tot2), (5, .int (nI w)), (6, .int (nI (vv + 1)))] := by subst evv etot2; exact (lv_sub hl [1, 2, 3, 4, 5, 0] rfl)
            have inv2 : vv ≤ 100 ∧ tot2 = sumN (livB β q key (-1) (-1)) (valB β) (100 * w + vv) := by
              subst evv etot2
              exact ⟨by omega, inv.2⟩
            have hf : 100 < vv + 101 := by omega
            clear evv etot2
            generalize 101 = d2 at hf
            induction d2 generalizing vv tot2 H locs ls with
            | zero => exact absurd hf (by have := inv2.1; omega)
            | succ d2 ih2 =>
              refine lv_iload hx hb dX3_sum_44 (lv_at hl 5 rfl) ?_
              refine lv_bipush (v := 100) hx hb dX3_sum_46 (by decide) ?_
              refine lv_icmp_gt (tgt := 106) hx hb dX3_sum_48 (by decide) (fun cg => ?_) (fun cg => ?_)
              · have hvv : vv = 100 := by
                  have := (nI_ltI (a := 100) (b := vv + 1) (by decide) (by have := inv2.1; omega)).mp cg
                  have := inv2.1
                  omega
                subst hvv
                refine lv_iinc (v := (nI (w + 1))) (lv' := [(5, .int (nI (w + 1))), (0, .ref (bm 0)), (1, .int (nI q)), (2, .int key), (3, .long tot2), (6, .int (nI (100 + 1)))]) hx hb dX3_sum_106 hl (k := 4) rfl (nI_1 w) (by decide) rfl (fun ls hl => ?_)
                refine lv_goto (tgt := 34) hx hb dX3_sum_109 (by decide) ?_
                exact ih (w := w + 1) (tot := tot2) (hl := (lv_sub hl [1, 2, 3, 4, 0] rfl)) (hG := hG) (inv := (by have z9 := inv2.2; rw [show 100 * w + 100 = 100 * (w + 1) by omega] at z9; exact ⟨by omega, z9⟩)) (hf := by omega)
              · have hvv : vv < 100 := by
                  rcases Nat.lt_or_ge vv 100 with z | z
                  · exact z
                  · exact absurd ((nI_ltI (a := 100) (b := vv + 1) (by decide) (by have := inv2.1; omega)).mpr (by omega)) cg
                refine lv_iload hx hb dX3_sum_51 (lv_at hl 4 rfl) ?_
                refine lv_iload hx hb dX3_sum_53 (lv_at hl 5 rfl) ?_
                refine g_calli (va_runS (As := [.int (nI w), .int (nI (vv + 1))]) (rest := []) ⟨hx, hb, hml, hown, hts⟩ (k_dot l G base (q := w) (m1 := vv + 1)) (cwS 2 hts gX3_sum_X3_dot rfl rfl rfl (by decide +kernel) ⟨(Nat.le_of_ble_eq_true rfl), (Nat.le_of_ble_eq_true rfl)⟩) (g_ps hK hG) rfl rfl hl.1 rfl (lv_room (Nat.le_of_ble_eq_true rfl)) dX3_sum_55 ⟨(Nat.le_of_ble_eq_true rfl), (Nat.le_of_ble_eq_true rfl)⟩) hG (fun y0 _ H locs hp hG => ?_)
                subst hp
                refine lv_istore (lv' := [(7, .int (nI (101 * w + (vv + 1)))), (0, .ref (bm 0)), (1, .int (nI q)), (2, .int key), (3, .long tot2), (5, .int (nI w)), (6, .int (nI (vv + 1)))]) hx hb dX3_sum_58 hl (by decide) rfl (fun ls hl => ?_)
                refine lv_aload_n hx hb dX3_sum_60 rfl (lv_at hl 1 rfl) ?_
                refine r_Model_live hx hb hts (by decide +kernel) hown hK hG mL0 mK0 mf3 (hts (.fieldLink RX3 13 "DotStoresModel" "live" "[J") (by decide +kernel)) dX3_sum_61 ?_
                refine lv_iload_n hx hb dX3_sum_64 rfl (lv_at hl 2 rfl) ?_
                refine lv_iload hx hb dX3_sum_65 (lv_at hl 5 rfl) ?_
                refine lv_iload hx hb dX3_sum_67 (lv_at hl 6 rfl) ?_
                refine g_calli (va_runS (As := [.ref (bm 3), .int (nI q), .int (nI w), .int (nI (vv + 1))]) (rest := []) ⟨hx, hb, hml, hown, hts⟩ (k_isSet l G base (k := q) (q := w) (pp := vv) mL3 mK3 mn3 (show q < 257 by omega) (by omega) (by omega)) (cwS 4 hts gX3_sum_X3_isSet rfl rfl rfl (by decide +kernel) ⟨(Nat.le_of_ble_eq_true rfl), (Nat.le_of_ble_eq_true rfl)⟩) (g_ps hK hG) rfl rfl hl.1 rfl (lv_room (Nat.le_of_ble_eq_true rfl)) dX3_sum_69 ⟨(Nat.le_of_ble_eq_true rfl), (Nat.le_of_ble_eq_true rfl)⟩) hG (fun y1 _ H locs hp hG => ?_)
                have hp : y1 = bi (b_L β q (128 * w + vv)) := by
                  rw [hp]
                  exact congrArg bi (repM_L hM (show q < 257 by omega) (by omega) (by omega))
                subst hp
                refine lv_if_eq (tgt := 98) hx hb dX3_sum_72 (by decide) (fun d1 => ?_) (fun d1 => ?_)
                · have d1 := bi_0.mp d1
                  have hlv : livB β q key (-1) (-1) (100 * w + vv) = false := by rw [livB_at hvv]; simp [d1]
                  refine lv_lload_n hx hb dX3_sum_98 rfl (lv_at hl 4 rfl) ?_
                  refine lv_lstore_n (lv' := [(3, .long tot2), (7, .int (nI (101 * w + (vv + 1)))), (0, .ref (bm 0)), (1, .int (nI q)), (2, .int key), (5, .int (nI w)), (6, .int (nI (vv + 1)))]) hx hb dX3_sum_99 rfl hl (by decide) rfl (fun ls hl => ?_)
                  refine lv_iinc (v := (nI (vv + 1 + 1))) (lv' := [(6, .int (nI (vv + 1 + 1))), (3, .long tot2), (7, .int (nI (101 * w + (vv + 1)))), (0, .ref (bm 0)), (1, .int (nI q)), (2, .int key), (5, .int (nI w))]) hx hb dX3_sum_100 hl (k := 6) rfl (nI_1 (vv + 1)) (by decide) rfl (fun ls hl => ?_)
                  refine lv_goto (tgt := 44) hx hb dX3_sum_103 (by decide) ?_
                  exact ih2 (vv := vv + 1) (tot2 := tot2) (hl := (lv_sub hl [3, 4, 5, 1, 6, 0] rfl)) (hG := hG) (inv2 := ⟨by omega, by rw [show 100 * w + (vv + 1) = 100 * w + vv + 1 from rfl]; rw [sumN_f hlv]; exact inv2.2⟩) (hf := by omega)
                · have d1 := ts_nf (fun z => d1 (bi_0.mpr z))
                  refine lv_aload_n hx hb dX3_sum_75 rfl (lv_at hl 1 rfl) ?_
                  refine r_Model_dotKey hx hb hts (by decide +kernel) hown hK hG mL0 mK0 mf9 (hts (.fieldLink RX3 33 "DotStoresModel" "dotKey" "[I") (by decide +kernel)) dX3_sum_76 ?_
                  refine lv_iload hx hb dX3_sum_79 (lv_at hl 0 rfl) ?_
                  refine g_iald hx hb hK hG mL9 mK9 (101 * w + (vv + 1)) rfl (by rw [mn9]; omega) (by rw [mn9]; decide) dX3_sum_81 ?_
                  refine lv_topi (fun z1 ez1 => ?_)
                  obtain rfl : z1 = b_key β (101 * w + (vv + 1)) := ez1.trans ((hM.2.2.2.2.2 _ (by omega)).1)
                  refine lv_iload_n hx hb dX3_sum_82 rfl (lv_at hl 3 rfl) ?_
                  refine lv_icmp_ne (tgt := 98) hx hb dX3_sum_83 (by decide) (fun d2 => ?_) (fun d2 => ?_)
                  · have hlv : livB β q key (-1) (-1) (100 * w + vv) = false := by rw [livB_at hvv]; simp [d2]
                    refine lv_lload_n hx hb dX3_sum_98 rfl (lv_at hl 4 rfl) ?_
                    refine lv_lstore_n (lv' := [(3, .long tot2), (7, .int (nI (101 * w + (vv + 1)))), (0, .ref (bm 0)), (1, .int (nI q)), (2, .int key), (5, .int (nI w)), (6, .int (nI (vv + 1)))]) hx hb dX3_sum_99 rfl hl (by decide) rfl (fun ls hl => ?_)
                    refine lv_iinc (v := (nI (vv + 1 + 1))) (lv' := [(6, .int (nI (vv + 1 + 1))), (3, .long tot2), (7, .int (nI (101 * w + (vv + 1)))), (0, .ref (bm 0)), (1, .int (nI q)), (2, .int key), (5, .int (nI w))]) hx hb dX3_sum_100 hl (k := 6) rfl (nI_1 (vv + 1)) (by decide) rfl (fun ls hl => ?_)
                    refine lv_goto (tgt := 44) hx hb dX3_sum_103 (by decide) ?_
                    exact ih2 (vv := vv + 1) (tot2 := tot2) (hl := (lv_sub hl [3, 4, 5, 1, 6, 0] rfl)) (hG := hG) (inv2 := ⟨by omega, by rw [show 100 * w + (vv + 1) = 100 * w + vv + 1 from rfl]; rw [sumN_f hlv]; exact inv2.2⟩) (hf := by omega)
                  · have d2 := (by first | exact d2 | exact Classical.not_not.mp d2)
                    have hlv : livB β q key (-1) (-1) (100 * w + vv) = true := by rw [livB_at hvv, d1, decide_eq_true ⟨d2, Or.inl rfl, Or.inl rfl⟩]; rfl
                    refine lv_lload_n hx hb dX3_sum_86 rfl (lv_at hl 4 rfl) ?_
                    refine lv_aload_n hx hb dX3_sum_87 rfl (lv_at hl 1 rfl) ?_
                    refine r_Model_dotValue hx hb hts (by decide +kernel) hown hK hG mL0 mK0 mf11 (hts (.fieldLink RX3 39 "DotStoresModel" "dotValue" "[J") (by decide +kernel)) dX3_sum_88 ?_
                    refine lv_iload hx hb dX3_sum_91 (lv_at hl 0 rfl) ?_
                    refine g_lald hx hb hK hG mL11 mK11 (101 * w + (vv + 1)) rfl (by rw [mn11]; omega) (by rw [mn11]; decide) dX3_sum_93 ?_
                    refine lv_topl (fun z2 ez2 => ?_)
                    obtain rfl : z2 = b_val β (101 * w + (vv + 1)) := ez2.trans ((hM.2.2.2.2.2 _ (by omega)).2.2)
                    refine lv_ladd hx hb dX3_sum_94 ?_
                    refine lv_goto (tgt := 99) hx hb dX3_sum_95 (by decide) ?_
                    refine lv_lstore_n (lv' := [(3, .long (tot2 + (b_val β (101 * w + (vv + 1))))), (7, .int (nI (101 * w + (vv + 1)))), (0, .ref (bm 0)), (1, .int (nI q)), (2, .int key), (5, .int (nI w)), (6, .int (nI (vv + 1)))]) hx hb dX3_sum_99 rfl hl (by decide) rfl (fun ls hl => ?_)
                    refine lv_iinc (v := (nI (vv + 1 + 1))) (lv' := [(6, .int (nI (vv + 1 + 1))), (3, .long (tot2 + (b_val β (101 * w + (vv + 1))))), (7, .int (nI (101 * w + (vv + 1)))), (0, .ref (bm 0)), (1, .int (nI q)), (2, .int key), (5, .int (nI w))]) hx hb dX3_sum_100 hl (k := 6) rfl (nI_1 (vv + 1)) (by decide) rfl (fun ls hl => ?_)
                    refine lv_goto (tgt := 44) hx hb dX3_sum_103 (by decide) ?_
                    exact ih2 (vv := vv + 1) (hl := (lv_sub hl [3, 4, 5, 1, 6, 0] rfl)) (hG := hG) (inv2 := ⟨by omega, by rw [show 100 * w + (vv + 1) = 100 * w + vv + 1 from rfl]; rw [sumN_t hlv, ← inv2.2]; unfold valB; rw [plc_at hvv]⟩) (hf := by omega)
      · exact absurd c8 (by decide)
set_option maxHeartbeats 4000000 in
set_option maxRecDepth 100000 in
/-- keys -/
theorem k_keys (l : Launch) (G : gG) (base : Nat) {L : List Nat} {K n : Nat → Nat} {rI : Nat → Nat → Int32} {rJ : Nat → Nat → Int64} {rQ : Nat → Nat → Option Nat} {fI : Nat → Nat → Int32} {fR : Nat → Nat → Option Nat} {bm : Nat → Nat} {β : bT} (hM : RepM (L, K, n, rI, rJ, rQ, fI, fR) bm β) {v : Int32} : Met l yX3_keys wsX3_keys ({ frames := 2, cells := 0, slots := 0, locals := 43 }) (va_Pc [.ref (bm 0), .int v] (g_Pr G base (L, K, n, rI, rJ, rQ, fI, fR))) (g_Qi G base (fun u : (Nat → Nat → Int32) × Nat => (L, K, n, rI, rJ, rQ, u.1, fR)) (fun x u => ((u.1 (bm 0) 0 = 0 ∧ (u.2 < 6 ∧ v = nI u.2) ∧ x = orK (fun f => b_L β u.2 (slot f)) (fun f => b_key β (plc f)) 600) ∨ (u.1 (bm 0) 0 = 1 ∧ ¬ okI v 6)) ∧ StpM (L, K, n, rI, rJ, rQ, fI, fR) bm (L, K, n, rI, rJ, rQ, u.1, fR) β)) 0 0 (g_A base) := by
  have hMd : isMd L K n fR bm := hM.1
  have hMd0 := hMd
  obtain ⟨minj, mL0, mK0, ⟨mf2, mf3, mf4, mf5, mf6, mf7, mf8, mf9, mf10, mf11, mf13⟩, ⟨mL2, mK2, mn2⟩, ⟨mL3, mK3, mn3⟩, ⟨mL4, mK4, mn4⟩, ⟨mL5, mK5, mn5⟩, ⟨mL6, mK6, mn6⟩, ⟨mL7, mK7, mn7⟩, ⟨mL8, mK8, mn8⟩, ⟨mL9, mK9, mn9⟩, ⟨mL10, mK10, mn10⟩, ⟨mL11, mK11, mn11⟩, ⟨mL13, mK13, mn13⟩⟩ := hMd0
  have hdl : fI (bm 0) 1 = nI (b_nd β) := hM.2.1.1
  have hnd : b_nd β ≤ 250 := hM.2.1.2
  refine Met.ofW (cc := cX3_keys) (maxL := 5) (ret := (some .int)) (by decide) rfl ?_
  intro p e s m args below meth c s₁ B hml hv
  obtain ⟨rfl, hPr⟩ := hv
  have hx := B.exec
  have hb := B.bytes
  have hr := B.returns
  have hts := atoms_spec (ws := wsX3_keys) B.pre
  have hown : s.vm.findClass RX3 = some m.cls := findClass_of_methodNamed B.named
  have hlocks := B.notSynchronized
  have hin : meth.name = "keys" := (name_of_methodNamed B.named B.method).1
  have hK := hPr.2.2
  have hG := hPr.gw
  have hl := lv_entry ([.ref (bm 0), .int v]) (n := 5) (Nat.le_of_ble_eq_true rfl)
  rw [lg_entry_eq]
  generalize (lg_sl ([.ref (bm 0), .int v]) ++ List.replicate (5 - (lg_sl ([.ref (bm 0), .int v])).length) Slot.unset).toArray = ls at hl ⊢
  have hl : lv_has ls 5 [(0, .ref (bm 0)), (1, .int v)] := hl
  refine g_start hPr (fun H locs hG => ?_)
  refine lv_iconst (v := 0) hx hb dX3_keys_0 (by decide) ?_
  refine lv_istore_n (lv' := [(2, .int 0), (0, .ref (bm 0)), (1, .int v)]) hx hb dX3_keys_1 rfl hl (by decide) rfl (fun ls hl => ?_)
  refine lv_aload_n hx hb dX3_keys_2 rfl (lv_at hl 1 rfl) ?_
  refine lv_aload_n hx hb dX3_keys_3 rfl (lv_at hl 1 rfl) ?_
  refine lv_iload_n hx hb dX3_keys_4 rfl (lv_at hl 2 rfl) ?_
  refine g_calli (va_runV (As := [.int v]) (rest := [.ref (bm 0)]) ⟨hx, hb, hml, hown, hts⟩ (k_isReplica l G base (v := v) (a := bm 0)) (cwV 1 hts gX3_keys_X3_isReplica rfl rfl rfl (by decide +kernel) ⟨(Nat.le_of_ble_eq_true rfl), (Nat.le_of_ble_eq_true rfl)⟩) (g_pv3 hK hG mL0 mK0) rfl rfl hl.1 rfl (lv_room (Nat.le_of_ble_eq_true rfl)) dX3_keys_5 ⟨(Nat.le_of_ble_eq_true rfl), (Nat.le_of_ble_eq_true rfl)⟩) hG (fun y1 b1 H locs hp hG => ?_)
  obtain ⟨e9, h1⟩ := hp
  subst e9
  cases b1 with
  | true =>
    obtain ⟨q, hq, rfl⟩ := h1.mp rfl
    refine g_calli (va_runV (As := [.int (bi true)]) (rest := []) ⟨hx, hb, hml, hown, hts⟩ (k_goes l G base hM (g := true)) (cwV 1 hts gX3_keys_X3_goes rfl rfl rfl (by decide +kernel) ⟨(Nat.le_of_ble_eq_true rfl), (Nat.le_of_ble_eq_true rfl)⟩) (g_pv3 hK hG mL0 mK0) rfl rfl hl.1 rfl (lv_room (Nat.le_of_ble_eq_true rfl)) dX3_keys_8 ⟨(Nat.le_of_ble_eq_true rfl), (Nat.le_of_ble_eq_true rfl)⟩) hG (fun y5 _ H locs hp hG => ?_)
    obtain ⟨f1, ef1⟩ : ∃ z, z = g_up fI (bm 0) 0 (bi (!true)) := ⟨_, rfl⟩
    replace hG : gw G base s.heap (L, K, n, rI, rJ, rQ, f1, fR) H locs := by rw [ef1]; exact hG
    have hT1 : StpM (L, K, n, rI, rJ, rQ, fI, fR) bm (L, K, n, rI, rJ, rQ, f1, fR) β := repM_F0 hM (by rw [ef1, g_up_i _ _ _ _ (by decide)]) (fun b hb => by rw [ef1, g_up_other _ _ _ hb])
    have hf1 : f1 (bm 0) 0 = 0 := by rw [ef1, g_up_at]; rfl
    subst hp
    refine lv_if_ne (tgt := 16) hx hb dX3_keys_11 (by decide) (fun c8 => ?_) (fun c8 => ?_)
    · refine lv_iconst (v := 0) hx hb dX3_keys_16 (by decide) ?_
      refine lv_istore_n (lv' := [(3, .int 0), (2, .int 0), (0, .ref (bm 0)), (1, .int (nI q))]) hx hb dX3_keys_17 rfl hl (by decide) rfl (fun ls hl => ?_)
      obtain ⟨w, ew⟩ : ∃ z : Nat, z = 0 := ⟨_, rfl⟩
      obtain ⟨ks, eks⟩ : ∃ z : Int32, z = 0 := ⟨_, rfl⟩
      replace hl : lv_has ls 5 [(0, .ref (bm 0)), (1, .int (nI q)), (2, .int ks), (3, .int (nI w))] := by subst ew eks; exact (lv_sub hl [2, 3, 1, 0] rfl)
      have inv : w ≤ 6 ∧ ks = orK (fun f => b_L β q (slot f)) (fun f => b_key β (plc f)) (100 * w) := by
        subst ew eks
        exact ⟨by omega, rfl⟩
      have hf : 6 < w + 7 := by omega
      clear ew eks
      generalize 7 = d at hf
      induction d generalizing w ks H locs ls with
      | zero => exact absurd hf (by have := inv.1; omega)
      | succ d ih =>
        refine lv_iload_n hx hb dX3_keys_18 rfl (lv_at hl 3 rfl) ?_
        refine lv_bipush (v := 6) hx hb dX3_keys_19 (by decide) ?_
        refine lv_icmp_ge (tgt := 80) hx hb dX3_keys_21 (by decide) (fun c0 => ?_) (fun c0 => ?_)
        · have hw : w = 6 := by
            rcases Nat.lt_or_ge w 6 with q | q
            · exact absurd c0 (nI_ge q (by decide))
            · omega
          subst hw
          refine lv_iload_n hx hb dX3_keys_80 rfl (lv_at hl 2 rfl) ?_
          refine W.widen (k := 0) (n := 0) (by omega) (by omega) ?_
          exact W.iret (v := ks) hx hb hr (fun t9 h9 hW9 => ⟨⟨ks, (f1, q), rfl, ⟨Or.inl ⟨hf1, ⟨hq, rfl⟩, inv.2⟩, hT1⟩, hG.at h9⟩, hG.2.2.1.F h9⟩) hG.2.2.1.2.2 dX3_keys_81
        · have hw : w < 6 := by
            rcases Nat.lt_or_ge w 6 with q | q
            · exact q
            · exact absurd (nI_le (a := 6) q (by omega)) c0
          refine lv_iconst (v := 1) hx hb dX3_keys_24 (by decide) ?_
          refine lv_istore (lv' := [(4, .int 1), (0, .ref (bm 0)), (1, .int (nI q)), (2, .int ks), (3, .int (nI w))]) hx hb dX3_keys_25 hl (by decide) rfl (fun ls hl => ?_)
          have hf0 := hf
          clear hf
          obtain ⟨vv, evv⟩ : ∃ z : Nat, z = 0 := ⟨_, rfl⟩
          obtain ⟨ks2, eks2⟩ : ∃ z : Int32, z = ks := ⟨_, rfl⟩
          replace hl : lv_has ls 5 [(0, .ref (bm 0)), (1, .int (nI q)), (2, .int ks2), (3, .int (nI w)), (4, .int (nI (vv + 1)))] := by subst evv eks2; exact (lv_sub hl [1, 2, 3, 4, 0] rfl)
          have inv2 : vv ≤ 100 ∧ ks2 = orK (fun f => b_L β q (slot f)) (fun f => b_key β (plc f)) (100 * w + vv) := by
            subst evv eks2
            exact ⟨by omega, inv.2⟩
          have hf : 100 < vv + 101 := by omega
          clear evv eks2
          generalize 101 = d2 at hf
          induction d2 generalizing vv ks2 H locs ls with
          | zero => exact absurd hf (by have := inv2.1; omega)
          | succ d2 ih2 =>
            refine lv_iload hx hb dX3_keys_27 (lv_at hl 4 rfl) ?_
            refine lv_bipush (v := 100) hx hb dX3_keys_29 (by decide) ?_
            refine lv_icmp_gt (tgt := 74) hx hb dX3_keys_31 (by decide) (fun cg => ?_) (fun cg => ?_)
            · have hvv : vv = 100 := by
                have := (nI_ltI (a := 100) (b := vv + 1) (by decide) (by have := inv2.1; omega)).mp cg
                have := inv2.1
                omega
              subst hvv
              refine lv_iinc (v := (nI (w + 1))) (lv' := [(3, .int (nI (w + 1))), (0, .ref (bm 0)), (1, .int (nI q)), (2, .int ks2), (4, .int (nI (100 + 1)))]) hx hb dX3_keys_74 hl (k := 3) rfl (nI_1 w) (by decide) rfl (fun ls hl => ?_)
              refine lv_goto (tgt := 18) hx hb dX3_keys_77 (by decide) ?_
              exact ih (w := w + 1) (ks := ks2) (hl := (lv_sub hl [1, 2, 3, 0] rfl)) (hG := hG) (inv := (by have z9 := inv2.2; rw [show 100 * w + 100 = 100 * (w + 1) by omega] at z9; exact ⟨by omega, z9⟩)) (hf := by omega)
            · have hvv : vv < 100 := by
                rcases Nat.lt_or_ge vv 100 with z | z
                · exact z
                · exact absurd ((nI_ltI (a := 100) (b := vv + 1) (by decide) (by have := inv2.1; omega)).mpr (by omega)) cg
              refine lv_aload_n hx hb dX3_keys_34 rfl (lv_at hl 0 rfl) ?_
              refine r_Model_live hx hb hts (by decide +kernel) hown hK hG mL0 mK0 mf3 (hts (.fieldLink RX3 13 "DotStoresModel" "live" "[J") (by decide +kernel)) dX3_keys_35 ?_
              refine lv_iload_n hx hb dX3_keys_38 rfl (lv_at hl 1 rfl) ?_
              refine lv_iload_n hx hb dX3_keys_39 rfl (lv_at hl 3 rfl) ?_
              refine lv_iload hx hb dX3_keys_40 (lv_at hl 4 rfl) ?_
              refine g_calli (va_runS (As := [.ref (bm 3), .int (nI q), .int (nI w), .int (nI (vv + 1))]) (rest := []) ⟨hx, hb, hml, hown, hts⟩ (k_isSet l G base (k := q) (q := w) (pp := vv) mL3 mK3 mn3 (show q < 257 by omega) (by omega) (by omega)) (cwS 4 hts gX3_keys_X3_isSet rfl rfl rfl (by decide +kernel) ⟨(Nat.le_of_ble_eq_true rfl), (Nat.le_of_ble_eq_true rfl)⟩) (g_ps hK hG) rfl rfl hl.1 rfl (lv_room (Nat.le_of_ble_eq_true rfl)) dX3_keys_42 ⟨(Nat.le_of_ble_eq_true rfl), (Nat.le_of_ble_eq_true rfl)⟩) hG (fun y1 _ H locs hp hG => ?_)
              have hp : y1 = bi (b_L β q (128 * w + vv)) := by
                rw [hp]
                exact congrArg bi (repM_L hM (show q < 257 by omega) (by omega) (by omega))
              subst hp
              refine lv_if_eq (tgt := 66) hx hb dX3_keys_45 (by decide) (fun d1 => ?_) (fun d1 => ?_)
              · have d1 := bi_0.mp d1
                refine lv_iload_n hx hb dX3_keys_66 rfl (lv_at hl 2 rfl) ?_
                refine lv_istore_n (lv' := [(2, .int ks2), (0, .ref (bm 0)), (1, .int (nI q)), (3, .int (nI w)), (4, .int (nI (vv + 1)))]) hx hb dX3_keys_67 rfl hl (by decide) rfl (fun ls hl => ?_)
                refine lv_iinc (v := (nI (vv + 1 + 1))) (lv' := [(4, .int (nI (vv + 1 + 1))), (2, .int ks2), (0, .ref (bm 0)), (1, .int (nI q)), (3, .int (nI w))]) hx hb dX3_keys_68 hl (k := 4) rfl (nI_1 (vv + 1)) (by decide) rfl (fun ls hl => ?_)
                refine lv_goto (tgt := 27) hx hb dX3_keys_71 (by decide) ?_
                exact ih2 (vv := vv + 1) (ks2 := ks2) (hl := (lv_sub hl [2, 3, 1, 4, 0] rfl)) (hG := hG) (inv2 := ⟨by omega, by rw [show 100 * w + (vv + 1) = 100 * w + vv + 1 from rfl]; rw [orK_f (P := (fun f => b_L β q (slot f))) (show b_L β q (slot _) = false by rw [slot_at hvv]; exact d1)]; exact inv2.2⟩) (hf := by omega)
              · have d1 := ts_nf (fun z => d1 (bi_0.mpr z))
                refine lv_iload_n hx hb dX3_keys_48 rfl (lv_at hl 2 rfl) ?_
                refine lv_iconst (v := 1) hx hb dX3_keys_49 (by decide) ?_
                refine lv_aload_n hx hb dX3_keys_50 rfl (lv_at hl 0 rfl) ?_
                refine r_Model_dotKey hx hb hts (by decide +kernel) hown hK hG mL0 mK0 mf9 (hts (.fieldLink RX3 33 "DotStoresModel" "dotKey" "[I") (by decide +kernel)) dX3_keys_51 ?_
                refine lv_iload_n hx hb dX3_keys_54 rfl (lv_at hl 3 rfl) ?_
                refine lv_iload hx hb dX3_keys_55 (lv_at hl 4 rfl) ?_
                refine g_calli (va_runS (As := [.int (nI w), .int (nI (vv + 1))]) (rest := [.ref (bm 9), .int 1, .int ks2]) ⟨hx, hb, hml, hown, hts⟩ (k_dot l G base (q := w) (m1 := vv + 1)) (cwS 2 hts gX3_keys_X3_dot rfl rfl rfl (by decide +kernel) ⟨(Nat.le_of_ble_eq_true rfl), (Nat.le_of_ble_eq_true rfl)⟩) (g_ps hK hG) rfl rfl hl.1 rfl (lv_room (Nat.le_of_ble_eq_true rfl)) dX3_keys_57 ⟨(Nat.le_of_ble_eq_true rfl), (Nat.le_of_ble_eq_true rfl)⟩) hG (fun y0 _ H locs hp hG => ?_)
                subst hp
                refine g_iald hx hb hK hG mL9 mK9 (101 * w + (vv + 1)) rfl (by rw [mn9]; omega) (by rw [mn9]; decide) dX3_keys_60 ?_
                refine lv_topi (fun z1 ez1 => ?_)
                obtain rfl : z1 = b_key β (101 * w + (vv + 1)) := ez1.trans ((hM.2.2.2.2.2 _ (by omega)).1)
                refine lv_ishl hx hb dX3_keys_61 ?_
                refine lv_ior hx hb dX3_keys_62 ?_
                refine lv_goto (tgt := 67) hx hb dX3_keys_63 (by decide) ?_
                refine lv_istore_n (lv' := [(2, .int (ks2 ||| (1 <<< ((b_key β (101 * w + (vv + 1))) &&& 31)))), (0, .ref (bm 0)), (1, .int (nI q)), (3, .int (nI w)), (4, .int (nI (vv + 1)))]) hx hb dX3_keys_67 rfl hl (by decide) rfl (fun ls hl => ?_)
                refine lv_iinc (v := (nI (vv + 1 + 1))) (lv' := [(4, .int (nI (vv + 1 + 1))), (2, .int (ks2 ||| (1 <<< ((b_key β (101 * w + (vv + 1))) &&& 31)))), (0, .ref (bm 0)), (1, .int (nI q)), (3, .int (nI w))]) hx hb dX3_keys_68 hl (k := 4) rfl (nI_1 (vv + 1)) (by decide) rfl (fun ls hl => ?_)
                refine lv_goto (tgt := 27) hx hb dX3_keys_71 (by decide) ?_
                exact ih2 (vv := vv + 1) (hl := (lv_sub hl [2, 3, 1, 4, 0] rfl)) (hG := hG) (inv2 := ⟨by omega, by rw [show 100 * w + (vv + 1) = 100 * w + vv + 1 from rfl]; rw [orK_t (P := (fun f => b_L β q (slot f))) (show b_L β q (slot _) = true by rw [slot_at hvv]; exact d1), ← inv2.2, plc_at hvv]⟩) (hf := by omega)
    · exact absurd c8 (by decide)
  | false =>
    have hno : ¬ okI v 6 := fun z => Bool.noConfusion (h1.mpr z)
    refine g_calli (va_runV (As := [.int (bi false)]) (rest := []) ⟨hx, hb, hml, hown, hts⟩ (k_goes l G base hM (g := false)) (cwV 1 hts gX3_keys_X3_goes rfl rfl rfl (by decide +kernel) ⟨(Nat.le_of_ble_eq_true rfl), (Nat.le_of_ble_eq_true rfl)⟩) (g_pv3 hK hG mL0 mK0) rfl rfl hl.1 rfl (lv_room (Nat.le_of_ble_eq_true rfl)) dX3_keys_8 ⟨(Nat.le_of_ble_eq_true rfl), (Nat.le_of_ble_eq_true rfl)⟩) hG (fun y5 _ H locs hp hG => ?_)
    obtain ⟨f1, ef1⟩ : ∃ z, z = g_up fI (bm 0) 0 (bi (!false)) := ⟨_, rfl⟩
    replace hG : gw G base s.heap (L, K, n, rI, rJ, rQ, f1, fR) H locs := by rw [ef1]; exact hG
    have hT1 : StpM (L, K, n, rI, rJ, rQ, fI, fR) bm (L, K, n, rI, rJ, rQ, f1, fR) β := repM_F0 hM (by rw [ef1, g_up_i _ _ _ _ (by decide)]) (fun b hb => by rw [ef1, g_up_other _ _ _ hb])
    have hf1 : f1 (bm 0) 0 = 1 := by rw [ef1, g_up_at]; rfl
    subst hp
    refine lv_if_ne (tgt := 16) hx hb dX3_keys_11 (by decide) (fun c8 => ?_) (fun c8 => ?_)
    · exact absurd rfl c8
    · refine lv_iconst (v := 0) hx hb dX3_keys_14 (by decide) ?_
      refine W.widen (k := 0) (n := 0) (by omega) (by omega) ?_
      exact W.iret (v := 0) hx hb hr (fun t9 h9 hW9 => ⟨⟨0, (f1, 0), rfl, ⟨Or.inr ⟨hf1, hno⟩, hT1⟩, hG.at h9⟩, hG.2.2.1.F h9⟩) hG.2.2.1.2.2 dX3_keys_15
