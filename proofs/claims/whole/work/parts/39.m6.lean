set_option maxHeartbeats 4000000 in
set_option maxRecDepth 100000 in
/-- clear -/
theorem k_clear (l : Launch) (G : gG) (base : Nat) {L : List Nat} {K n : Nat → Nat} {rI : Nat → Nat → Int32} {rJ : Nat → Nat → Int64} {rQ : Nat → Nat → Option Nat} {fI : Nat → Nat → Int32} {fR : Nat → Nat → Option Nat} {bm : Nat → Nat} {β : bT} (hM : RepM (L, K, n, rI, rJ, rQ, fI, fR) bm β) {v key : Int32} : Met l yX3_clear wsX3_clear ({ frames := 3, cells := 0, slots := 0, locals := 69 }) (va_Pc [.ref (bm 0), .int v, .int key] (g_Pr G base (L, K, n, rI, rJ, rQ, fI, fR))) (g_Qi G base (fun u : ((Nat → Nat → Int32) × (Nat → Nat → Int64) × (Nat → Nat → Int32)) × Nat => (L, K, n, u.1.1, u.1.2.1, rQ, u.1.2.2, fR)) (fun x u => u.1.2.2 (bm 0) 0 = nI u.2 ∧ ref2 β (okI v 6) (okI key 16) u.2 ∧ ((u.2 = 0 ∧ x = nI (b_nd β) ∧ ∃ q, q < 6 ∧ v = nI q ∧ StpM (L, K, n, rI, rJ, rQ, fI, fR) bm (L, K, n, u.1.1, u.1.2.1, rQ, u.1.2.2, fR) (bClear β q key)) ∨ (u.2 ≠ 0 ∧ StpM (L, K, n, rI, rJ, rQ, fI, fR) bm (L, K, n, u.1.1, u.1.2.1, rQ, u.1.2.2, fR) β)))) 0 0 (g_A base) := by
  have hMd : isMd L K n fR bm := hM.1
  have hMd0 := hMd
  obtain ⟨minj, mL0, mK0, ⟨mf2, mf3, mf4, mf5, mf6, mf7, mf8, mf9, mf10, mf11, mf13⟩, ⟨mL2, mK2, mn2⟩, ⟨mL3, mK3, mn3⟩, ⟨mL4, mK4, mn4⟩, ⟨mL5, mK5, mn5⟩, ⟨mL6, mK6, mn6⟩, ⟨mL7, mK7, mn7⟩, ⟨mL8, mK8, mn8⟩, ⟨mL9, mK9, mn9⟩, ⟨mL10, mK10, mn10⟩, ⟨mL11, mK11, mn11⟩, ⟨mL13, mK13, mn13⟩⟩ := hMd0
  have hdl : fI (bm 0) 1 = nI (b_nd β) := hM.2.1.1
  have hnd : b_nd β ≤ 250 := hM.2.1.2
  refine Met.ofW (cc := cX3_clear) (maxL := 4) (ret := (some .int)) (by decide) rfl ?_
  intro p e s m args below meth c s₁ B hml hv
  obtain ⟨rfl, hPr⟩ := hv
  have hx := B.exec
  have hb := B.bytes
  have hr := B.returns
  have hts := atoms_spec (ws := wsX3_clear) B.pre
  have hown : s.vm.findClass RX3 = some m.cls := findClass_of_methodNamed B.named
  have hlocks := B.notSynchronized
  have hin : meth.name = "clear" := (name_of_methodNamed B.named B.method).1
  have hK := hPr.2.2
  have hG := hPr.gw
  have hl := lv_entry ([.ref (bm 0), .int v, .int key]) (n := 4) (Nat.le_of_ble_eq_true rfl)
  rw [lg_entry_eq]
  generalize (lg_sl ([.ref (bm 0), .int v, .int key]) ++ List.replicate (4 - (lg_sl ([.ref (bm 0), .int v, .int key])).length) Slot.unset).toArray = ls at hl ⊢
  have hl : lv_has ls 4 [(0, .ref (bm 0)), (1, .int v), (2, .int key)] := hl
  refine g_start hPr (fun H locs hG => ?_)
  refine lv_aload_n hx hb dX3_clear_0 rfl (lv_at hl 0 rfl) ?_
  refine lv_aload_n hx hb dX3_clear_1 rfl (lv_at hl 0 rfl) ?_
  refine lv_iload_n hx hb dX3_clear_2 rfl (lv_at hl 1 rfl) ?_
  refine g_calli (va_runV (As := [.int v]) (rest := [.ref (bm 0)]) ⟨hx, hb, hml, hown, hts⟩ (k_isReplica l G base (v := v) (a := bm 0)) (cwV 1 hts gX3_clear_X3_isReplica rfl rfl rfl (by decide +kernel) ⟨(Nat.le_of_ble_eq_true rfl), (Nat.le_of_ble_eq_true rfl)⟩) (g_pv3 hK hG mL0 mK0) rfl rfl hl.1 rfl (lv_room (Nat.le_of_ble_eq_true rfl)) dX3_clear_3 ⟨(Nat.le_of_ble_eq_true rfl), (Nat.le_of_ble_eq_true rfl)⟩) hG (fun y1 b1 H locs hp hG => ?_)
  obtain ⟨e1, h1⟩ := hp
  subst e1
  refine lv_if_eq (tgt := 16) hx hb dX3_clear_6 (by decide) (fun c1 => ?_) (fun c1 => ?_)
  · have hno : ¬ (okI v 6 ∧ okI key 16) := fun z => absurd ((bi_0.mp c1).symm.trans (h1.mpr z.1)) (by decide)
    refine lv_iconst (v := 1) hx hb dX3_clear_16 (by decide) ?_
    refine lv_goto (tgt := 34) hx hb dX3_clear_17 (by decide) ?_
    refine w_Model_thrown hx hb hts (by decide +kernel) hown hK hG mL0 mK0 (hts (.fieldLink RX3 45 "DotStoresModel" "thrown" "I") (by decide +kernel)) dX3_clear_34 (fun H locs hG => ?_)
    obtain ⟨f1, ef1⟩ : ∃ z, z = g_up fI (bm 0) 0 1 := ⟨_, rfl⟩
    replace hG : gw G base s.heap (L, K, n, rI, rJ, rQ, f1, fR) H locs := by rw [ef1]; exact hG
    have hT1 : StpM (L, K, n, rI, rJ, rQ, fI, fR) bm (L, K, n, rI, rJ, rQ, f1, fR) β := repM_F0 hM (by rw [ef1, g_up_i _ _ _ _ (by decide)]) (fun b hb => by rw [ef1, g_up_other _ _ _ hb])
    have hf1 : f1 (bm 0) 0 = 1 := by rw [ef1, g_up_at]
    refine lv_aload_n hx hb dX3_clear_37 rfl (lv_at hl 0 rfl) ?_
    refine r_Model_thrown hx hb hts (by decide +kernel) hown hK hG mL0 mK0 (hts (.fieldLink RX3 45 "DotStoresModel" "thrown" "I") (by decide +kernel)) dX3_clear_38 ?_
    refine lv_topi (fun z1 ez1 => ?_)
    obtain rfl : z1 = 1 := ez1.trans (hf1)
    refine lv_if_le (tgt := 46) hx hb dX3_clear_41 (by decide) (fun c9 => ?_) (fun c9 => ?_)
    · exact absurd c9 (by decide)
    · refine lv_iconst (v := 0) hx hb dX3_clear_44 (by decide) ?_
      refine W.widen (k := 0) (n := 0) (by omega) (by omega) ?_
      exact W.iret (v := 0) hx hb hr (fun t9 h9 hW9 => ⟨⟨0, ((rI, rJ, f1), 1), rfl, ⟨hf1, Or.inl ⟨rfl, hno⟩, Or.inr ⟨Nat.succ_ne_zero _, hT1⟩⟩, hG.at h9⟩, hG.2.2.1.F h9⟩) hG.2.2.1.2.2 dX3_clear_45
  · obtain ⟨q, hq, rfl⟩ := h1.mp (ts_nf (fun z => c1 (bi_0.mpr z)))
    refine lv_iload_n hx hb dX3_clear_9 rfl (lv_at hl 2 rfl) ?_
    refine g_calli (va_runS (As := [.int key]) (rest := [.ref (bm 0)]) ⟨hx, hb, hml, hown, hts⟩ (k_isKey l G base (v := key)) (cwS 1 hts gX3_clear_X3_isKey rfl rfl rfl (by decide +kernel) ⟨(Nat.le_of_ble_eq_true rfl), (Nat.le_of_ble_eq_true rfl)⟩) (g_ps hK hG) rfl rfl hl.1 rfl (lv_room (Nat.le_of_ble_eq_true rfl)) dX3_clear_10 ⟨(Nat.le_of_ble_eq_true rfl), (Nat.le_of_ble_eq_true rfl)⟩) hG (fun y2 b2 H locs hp hG => ?_)
    obtain ⟨e2, h2⟩ := hp
    subst e2
    refine lv_if_ne (tgt := 20) hx hb dX3_clear_13 (by decide) (fun c2 => ?_) (fun c2 => ?_)
    · have hB := h2.mp (ts_nf (fun z => c2 (bi_0.mpr z)))
      refine lv_aload_n hx hb dX3_clear_20 rfl (lv_at hl 0 rfl) ?_
      refine lv_iload_n hx hb dX3_clear_21 rfl (lv_at hl 1 rfl) ?_
      refine lv_iconst (v := 0) hx hb dX3_clear_22 (by decide) ?_
      refine g_calli (va_runV (As := [.int (nI q), .int 0]) (rest := [.ref (bm 0)]) ⟨hx, hb, hml, hown, hts⟩ (k_hasRoom l G base hM (q := q) (on := false) hq) (cwV 2 hts gX3_clear_X3_hasRoom rfl rfl rfl (by decide +kernel) ⟨(Nat.le_of_ble_eq_true rfl), (Nat.le_of_ble_eq_true rfl)⟩) (g_pv3 hK hG mL0 mK0) rfl rfl hl.1 rfl (lv_room (Nat.le_of_ble_eq_true rfl)) dX3_clear_23 ⟨(Nat.le_of_ble_eq_true rfl), (Nat.le_of_ble_eq_true rfl)⟩) hG (fun y3 b3 H locs hp hG => ?_)
      obtain ⟨e3, h3⟩ := hp
      subst e3
      refine lv_if_eq (tgt := 33) hx hb dX3_clear_26 (by decide) (fun c5 => ?_) (fun c5 => ?_)
      · have hn3 : ¬ b_nd β < 250 := fun z => absurd ((bi_0.mp c5).symm.trans (h3.mpr ⟨z, fun y => Bool.noConfusion y⟩)) (by decide)
        refine lv_iconst (v := 2) hx hb dX3_clear_33 (by decide) ?_
        refine w_Model_thrown hx hb hts (by decide +kernel) hown hK hG mL0 mK0 (hts (.fieldLink RX3 45 "DotStoresModel" "thrown" "I") (by decide +kernel)) dX3_clear_34 (fun H locs hG => ?_)
        obtain ⟨f1, ef1⟩ : ∃ z, z = g_up fI (bm 0) 0 2 := ⟨_, rfl⟩
        replace hG : gw G base s.heap (L, K, n, rI, rJ, rQ, f1, fR) H locs := by rw [ef1]; exact hG
        have hT1 : StpM (L, K, n, rI, rJ, rQ, fI, fR) bm (L, K, n, rI, rJ, rQ, f1, fR) β := repM_F0 hM (by rw [ef1, g_up_i _ _ _ _ (by decide)]) (fun b hb => by rw [ef1, g_up_other _ _ _ hb])
        have hf1 : f1 (bm 0) 0 = 2 := by rw [ef1, g_up_at]
        refine lv_aload_n hx hb dX3_clear_37 rfl (lv_at hl 0 rfl) ?_
        refine r_Model_thrown hx hb hts (by decide +kernel) hown hK hG mL0 mK0 (hts (.fieldLink RX3 45 "DotStoresModel" "thrown" "I") (by decide +kernel)) dX3_clear_38 ?_
        refine lv_topi (fun z2 ez2 => ?_)
        obtain rfl : z2 = 2 := ez2.trans (hf1)
        refine lv_if_le (tgt := 46) hx hb dX3_clear_41 (by decide) (fun c9 => ?_) (fun c9 => ?_)
        · exact absurd c9 (by decide)
        · refine lv_iconst (v := 0) hx hb dX3_clear_44 (by decide) ?_
          refine W.widen (k := 0) (n := 0) (by omega) (by omega) ?_
          exact W.iret (v := 0) hx hb hr (fun t9 h9 hW9 => ⟨⟨0, ((rI, rJ, f1), 2), rfl, ⟨hf1, Or.inr (Or.inl ⟨rfl, ⟨⟨q, hq, rfl⟩, hB⟩, hn3⟩), Or.inr ⟨Nat.succ_ne_zero _, hT1⟩⟩, hG.at h9⟩, hG.2.2.1.F h9⟩) hG.2.2.1.2.2 dX3_clear_45
      · have hlt : b_nd β < 250 := (h3.mp (ts_nf (fun z => c5 (bi_0.mpr z)))).1
        refine lv_iconst (v := 0) hx hb dX3_clear_29 (by decide) ?_
        refine lv_goto (tgt := 34) hx hb dX3_clear_30 (by decide) ?_
        refine w_Model_thrown hx hb hts (by decide +kernel) hown hK hG mL0 mK0 (hts (.fieldLink RX3 45 "DotStoresModel" "thrown" "I") (by decide +kernel)) dX3_clear_34 (fun H locs hG => ?_)
        obtain ⟨f1, ef1⟩ : ∃ z, z = g_up fI (bm 0) 0 0 := ⟨_, rfl⟩
        replace hG : gw G base s.heap (L, K, n, rI, rJ, rQ, f1, fR) H locs := by rw [ef1]; exact hG
        have hT1 : StpM (L, K, n, rI, rJ, rQ, fI, fR) bm (L, K, n, rI, rJ, rQ, f1, fR) β := repM_F0 hM (by rw [ef1, g_up_i _ _ _ _ (by decide)]) (fun b hb => by rw [ef1, g_up_other _ _ _ hb])
        have hf1 : f1 (bm 0) 0 = 0 := by rw [ef1, g_up_at]
        refine lv_aload_n hx hb dX3_clear_37 rfl (lv_at hl 0 rfl) ?_
        refine r_Model_thrown hx hb hts (by decide +kernel) hown hK hG mL0 mK0 (hts (.fieldLink RX3 45 "DotStoresModel" "thrown" "I") (by decide +kernel)) dX3_clear_38 ?_
        refine lv_topi (fun z3 ez3 => ?_)
        obtain rfl : z3 = 0 := ez3.trans (hf1)
        refine lv_if_le (tgt := 46) hx hb dX3_clear_41 (by decide) (fun c9 => ?_) (fun c9 => ?_)
        · refine lv_aload_n hx hb dX3_clear_46 rfl (lv_at hl 0 rfl) ?_
          refine g_calli (va_runV (As := []) (rest := []) ⟨hx, hb, hml, hown, hts⟩ (k_fresh l G base hT1.1 hlt) (cwV 0 hts gX3_clear_X3_fresh rfl rfl rfl (by decide +kernel) ⟨(Nat.le_of_ble_eq_true rfl), (Nat.le_of_ble_eq_true rfl)⟩) (g_pv3 hK hG mL0 mK0) rfl rfl hl.1 rfl (lv_room (Nat.le_of_ble_eq_true rfl)) dX3_clear_47 ⟨(Nat.le_of_ble_eq_true rfl), (Nat.le_of_ble_eq_true rfl)⟩) hG (fun y7 u H locs hp hG => ?_)
          obtain ⟨i1, j1⟩ := u
          obtain ⟨e7, hF1⟩ := hp
          replace hG : gw G base s.heap (L, K, n, i1, j1, rQ, f1, fR) H locs := hG
          replace e7 : y7 = nI (6 + b_nd β) := e7
          subst e7
          replace hF1 : StpM (L, K, n, rI, rJ, rQ, fI, fR) bm (L, K, n, i1, j1, rQ, f1, fR) (bEmp β (6 + b_nd β)) := hT1.tr hF1
          refine lv_istore_n (lv' := [(3, .int (nI (6 + b_nd β))), (0, .ref (bm 0)), (1, .int (nI q)), (2, .int key)]) hx hb dX3_clear_50 rfl hl (by decide) rfl (fun ls hl => ?_)
          refine lv_aload_n hx hb dX3_clear_51 rfl (lv_at hl 1 rfl) ?_
          refine lv_iload_n hx hb dX3_clear_52 rfl (lv_at hl 2 rfl) ?_
          refine lv_iload_n hx hb dX3_clear_53 rfl (lv_at hl 0 rfl) ?_
          refine lv_iload_n hx hb dX3_clear_54 rfl (lv_at hl 3 rfl) ?_
          refine lv_iconst (v := (-1)) hx hb dX3_clear_55 (by decide) ?_
          refine lv_iconst (v := (-1)) hx hb dX3_clear_56 (by decide) ?_
          refine g_calll (va_runV (As := [.int (nI q), .int (nI (6 + b_nd β)), .int key, .int (-1), .int (-1)]) (rest := []) ⟨hx, hb, hml, hown, hts⟩ (k_takeBack l G base hF1.1 (s9 := q) (D := 6 + b_nd β) (key := key) (part := (-1)) (whose := (-1)) (by omega) (by omega)) (cwV 5 hts gX3_clear_X3_takeBack rfl rfl rfl (by decide +kernel) ⟨(Nat.le_of_ble_eq_true rfl), (Nat.le_of_ble_eq_true rfl)⟩) (g_pv3 hK hG mL0 mK0) rfl rfl hl.1 rfl (lv_room (Nat.le_of_ble_eq_true rfl)) dX3_clear_57 ⟨(Nat.le_of_ble_eq_true rfl), (Nat.le_of_ble_eq_true rfl)⟩) hG (fun y8 j2 H locs hp hG => ?_)
          obtain ⟨e8, hF2⟩ := hp
          replace hF2 : StpM (L, K, n, rI, rJ, rQ, fI, fR) bm (L, K, n, i1, j2, rQ, f1, fR) (bBack (bEmp β (6 + b_nd β)) q (6 + b_nd β) key (-1) (-1)) := hF1.tr hF2
          refine lv_pop2_2 hx hb dX3_clear_60 rfl ?_
          refine lv_aload_n hx hb dX3_clear_61 rfl (lv_at hl 1 rfl) ?_
          refine lv_iload_n hx hb dX3_clear_62 rfl (lv_at hl 2 rfl) ?_
          refine lv_iload_n hx hb dX3_clear_63 rfl (lv_at hl 0 rfl) ?_
          refine g_calli (va_runV (As := [.int (nI q), .int (nI (6 + b_nd β))]) (rest := []) ⟨hx, hb, hml, hown, hts⟩ (k_done l G base hF2.1 (q := q) (k := 6 + b_nd β) (by omega) (by omega) hlt) (cwV 2 hts gX3_clear_X3_done rfl rfl rfl (by decide +kernel) ⟨(Nat.le_of_ble_eq_true rfl), (Nat.le_of_ble_eq_true rfl)⟩) (g_pv3 hK hG mL0 mK0) rfl rfl hl.1 rfl (lv_room (Nat.le_of_ble_eq_true rfl)) dX3_clear_64 ⟨(Nat.le_of_ble_eq_true rfl), (Nat.le_of_ble_eq_true rfl)⟩) hG (fun y9 u H locs hp hG => ?_)
          obtain ⟨i4, j4, f4⟩ := u
          obtain ⟨e9, ef9, hF4⟩ := hp
          replace hG : gw G base s.heap (L, K, n, i4, j4, rQ, f4, fR) H locs := hG
          replace e9 : y9 = nI (b_nd β) := e9
          subst e9
          replace ef9 : f4 (bm 0) 0 = f1 (bm 0) 0 := ef9
          replace hF4 : StpM (L, K, n, rI, rJ, rQ, fI, fR) bm (L, K, n, i4, j4, rQ, f4, fR) (bClear β q key) := hF2.tr hF4
          refine W.widen (k := 0) (n := 0) (by omega) (by omega) ?_
          exact W.iret (v := (nI (b_nd β))) hx hb hr (fun t9 h9 hW9 => ⟨⟨(nI (b_nd β)), ((i4, j4, f4), 0), rfl, ⟨ef9.trans hf1, Or.inr (Or.inr ⟨rfl, ⟨⟨q, hq, rfl⟩, hB⟩, hlt⟩), Or.inl ⟨rfl, rfl, q, hq, rfl, hF4⟩⟩, hG.at h9⟩, hG.2.2.1.F h9⟩) hG.2.2.1.2.2 dX3_clear_67
        · exact absurd (by decide) c9
    · have hno : ¬ (okI (nI q) 6 ∧ okI key 16) := fun z => absurd ((bi_0.mp (by first | exact c2 | exact Classical.not_not.mp c2)).symm.trans (h2.mpr z.2)) (by decide)
      refine lv_iconst (v := 1) hx hb dX3_clear_16 (by decide) ?_
      refine lv_goto (tgt := 34) hx hb dX3_clear_17 (by decide) ?_
      refine w_Model_thrown hx hb hts (by decide +kernel) hown hK hG mL0 mK0 (hts (.fieldLink RX3 45 "DotStoresModel" "thrown" "I") (by decide +kernel)) dX3_clear_34 (fun H locs hG => ?_)
      obtain ⟨f1, ef1⟩ : ∃ z, z = g_up fI (bm 0) 0 1 := ⟨_, rfl⟩
      replace hG : gw G base s.heap (L, K, n, rI, rJ, rQ, f1, fR) H locs := by rw [ef1]; exact hG
      have hT1 : StpM (L, K, n, rI, rJ, rQ, fI, fR) bm (L, K, n, rI, rJ, rQ, f1, fR) β := repM_F0 hM (by rw [ef1, g_up_i _ _ _ _ (by decide)]) (fun b hb => by rw [ef1, g_up_other _ _ _ hb])
      have hf1 : f1 (bm 0) 0 = 1 := by rw [ef1, g_up_at]
      refine lv_aload_n hx hb dX3_clear_37 rfl (lv_at hl 0 rfl) ?_
      refine r_Model_thrown hx hb hts (by decide +kernel) hown hK hG mL0 mK0 (hts (.fieldLink RX3 45 "DotStoresModel" "thrown" "I") (by decide +kernel)) dX3_clear_38 ?_
      refine lv_topi (fun z4 ez4 => ?_)
      obtain rfl : z4 = 1 := ez4.trans (hf1)
      refine lv_if_le (tgt := 46) hx hb dX3_clear_41 (by decide) (fun c9 => ?_) (fun c9 => ?_)
      · exact absurd c9 (by decide)
      · refine lv_iconst (v := 0) hx hb dX3_clear_44 (by decide) ?_
        refine W.widen (k := 0) (n := 0) (by omega) (by omega) ?_
        exact W.iret (v := 0) hx hb hr (fun t9 h9 hW9 => ⟨⟨0, ((rI, rJ, f1), 1), rfl, ⟨hf1, Or.inl ⟨rfl, hno⟩, Or.inr ⟨Nat.succ_ne_zero _, hT1⟩⟩, hG.at h9⟩, hG.2.2.1.F h9⟩) hG.2.2.1.2.2 dX3_clear_45
set_option maxHeartbeats 4000000 in
set_option maxRecDepth 100000 in
/-- twice -/
theorem k_twice (l : Launch) (G : gG) (base : Nat) {L : List Nat} {K n : Nat → Nat} {rI : Nat → Nat → Int32} {rJ : Nat → Nat → Int64} {rQ : Nat → Nat → Option Nat} {fI : Nat → Nat → Int32} {fR : Nat → Nat → Option Nat} {bm : Nat → Nat} {β : bT} (hM : RepM (L, K, n, rI, rJ, rQ, fI, fR) bm β) {v el : Int32} {on : Bool} : Met l yX3_twice wsX3_twice ({ frames := 3, cells := 0, slots := 0, locals := 69 }) (va_Pc [.ref (bm 0), .int v, .int el, .int (bi on)] (g_Pr G base (L, K, n, rI, rJ, rQ, fI, fR))) (g_Qi G base (fun u : ((Nat → Nat → Int32) × (Nat → Nat → Int64) × (Nat → Nat → Int32)) × Nat => (L, K, n, u.1.1, u.1.2.1, rQ, u.1.2.2, fR)) (fun x u => u.1.2.2 (bm 0) 0 = nI u.2 ∧ ref2 β (okI v 6) (okI el 32) u.2 ∧ ((u.2 = 0 ∧ x = nI (b_nd β) ∧ ∃ q ee, q < 6 ∧ v = nI q ∧ ee < 32 ∧ el = nI ee ∧ StpM (L, K, n, rI, rJ, rQ, fI, fR) bm (L, K, n, u.1.1, u.1.2.1, rQ, u.1.2.2, fR) (bTwice β q ee on)) ∨ (u.2 ≠ 0 ∧ StpM (L, K, n, rI, rJ, rQ, fI, fR) bm (L, K, n, u.1.1, u.1.2.1, rQ, u.1.2.2, fR) β)))) 0 0 (g_A base) := by
  have hMd : isMd L K n fR bm := hM.1
  have hMd0 := hMd
  obtain ⟨minj, mL0, mK0, ⟨mf2, mf3, mf4, mf5, mf6, mf7, mf8, mf9, mf10, mf11, mf13⟩, ⟨mL2, mK2, mn2⟩, ⟨mL3, mK3, mn3⟩, ⟨mL4, mK4, mn4⟩, ⟨mL5, mK5, mn5⟩, ⟨mL6, mK6, mn6⟩, ⟨mL7, mK7, mn7⟩, ⟨mL8, mK8, mn8⟩, ⟨mL9, mK9, mn9⟩, ⟨mL10, mK10, mn10⟩, ⟨mL11, mK11, mn11⟩, ⟨mL13, mK13, mn13⟩⟩ := hMd0
  have hdl : fI (bm 0) 1 = nI (b_nd β) := hM.2.1.1
  have hnd : b_nd β ≤ 250 := hM.2.1.2
  refine Met.ofW (cc := cX3_twice) (maxL := 5) (ret := (some .int)) (by decide) rfl ?_
  intro p e s m args below meth c s₁ B hml hv
  obtain ⟨rfl, hPr⟩ := hv
  have hx := B.exec
  have hb := B.bytes
  have hr := B.returns
  have hts := atoms_spec (ws := wsX3_twice) B.pre
  have hown : s.vm.findClass RX3 = some m.cls := findClass_of_methodNamed B.named
  have hlocks := B.notSynchronized
  have hin : meth.name = "twice" := (name_of_methodNamed B.named B.method).1
  have hK := hPr.2.2
  have hG := hPr.gw
  have hl := lv_entry ([.ref (bm 0), .int v, .int el, .int (bi on)]) (n := 5) (Nat.le_of_ble_eq_true rfl)
  rw [lg_entry_eq]
  generalize (lg_sl ([.ref (bm 0), .int v, .int el, .int (bi on)]) ++ List.replicate (5 - (lg_sl ([.ref (bm 0), .int v, .int el, .int (bi on)])).length) Slot.unset).toArray = ls at hl ⊢
  have hl : lv_has ls 5 [(0, .ref (bm 0)), (1, .int v), (2, .int el), (3, .int (bi on))] := hl
  refine g_start hPr (fun H locs hG => ?_)
  refine lv_aload_n hx hb dX3_twice_0 rfl (lv_at hl 0 rfl) ?_
  refine lv_aload_n hx hb dX3_twice_1 rfl (lv_at hl 0 rfl) ?_
  refine lv_iload_n hx hb dX3_twice_2 rfl (lv_at hl 1 rfl) ?_
  refine g_calli (va_runV (As := [.int v]) (rest := [.ref (bm 0)]) ⟨hx, hb, hml, hown, hts⟩ (k_isReplica l G base (v := v) (a := bm 0)) (cwV 1 hts gX3_twice_X3_isReplica rfl rfl rfl (by decide +kernel) ⟨(Nat.le_of_ble_eq_true rfl), (Nat.le_of_ble_eq_true rfl)⟩) (g_pv3 hK hG mL0 mK0) rfl rfl hl.1 rfl (lv_room (Nat.le_of_ble_eq_true rfl)) dX3_twice_3 ⟨(Nat.le_of_ble_eq_true rfl), (Nat.le_of_ble_eq_true rfl)⟩) hG (fun y1 b1 H locs hp hG => ?_)
  obtain ⟨e1, h1⟩ := hp
  subst e1
  refine lv_if_eq (tgt := 16) hx hb dX3_twice_6 (by decide) (fun c1 => ?_) (fun c1 => ?_)
  · have hno : ¬ (okI v 6 ∧ okI el 32) := fun z => absurd ((bi_0.mp c1).symm.trans (h1.mpr z.1)) (by decide)
    refine lv_iconst (v := 1) hx hb dX3_twice_16 (by decide) ?_
    refine lv_goto (tgt := 34) hx hb dX3_twice_17 (by decide) ?_
    refine w_Model_thrown hx hb hts (by decide +kernel) hown hK hG mL0 mK0 (hts (.fieldLink RX3 45 "DotStoresModel" "thrown" "I") (by decide +kernel)) dX3_twice_34 (fun H locs hG => ?_)
    obtain ⟨f1, ef1⟩ : ∃ z, z = g_up fI (bm 0) 0 1 := ⟨_, rfl⟩
    replace hG : gw G base s.heap (L, K, n, rI, rJ, rQ, f1, fR) H locs := by rw [ef1]; exact hG
    have hT1 : StpM (L, K, n, rI, rJ, rQ, fI, fR) bm (L, K, n, rI, rJ, rQ, f1, fR) β := repM_F0 hM (by rw [ef1, g_up_i _ _ _ _ (by decide)]) (fun b hb => by rw [ef1, g_up_other _ _ _ hb])
    have hf1 : f1 (bm 0) 0 = 1 := by rw [ef1, g_up_at]
    refine lv_aload_n hx hb dX3_twice_37 rfl (lv_at hl 0 rfl) ?_
    refine r_Model_thrown hx hb hts (by decide +kernel) hown hK hG mL0 mK0 (hts (.fieldLink RX3 45 "DotStoresModel" "thrown" "I") (by decide +kernel)) dX3_twice_38 ?_
    refine lv_topi (fun z1 ez1 => ?_)
    obtain rfl : z1 = 1 := ez1.trans (hf1)
    refine lv_if_le (tgt := 46) hx hb dX3_twice_41 (by decide) (fun c9 => ?_) (fun c9 => ?_)
    · exact absurd c9 (by decide)
    · refine lv_iconst (v := 0) hx hb dX3_twice_44 (by decide) ?_
      refine W.widen (k := 0) (n := 0) (by omega) (by omega) ?_
      exact W.iret (v := 0) hx hb hr (fun t9 h9 hW9 => ⟨⟨0, ((rI, rJ, f1), 1), rfl, ⟨hf1, Or.inl ⟨rfl, hno⟩, Or.inr ⟨Nat.succ_ne_zero _, hT1⟩⟩, hG.at h9⟩, hG.2.2.1.F h9⟩) hG.2.2.1.2.2 dX3_twice_45
  · obtain ⟨q, hq, rfl⟩ := h1.mp (ts_nf (fun z => c1 (bi_0.mpr z)))
    refine lv_iload_n hx hb dX3_twice_9 rfl (lv_at hl 2 rfl) ?_
    refine g_calli (va_runS (As := [.int el]) (rest := [.ref (bm 0)]) ⟨hx, hb, hml, hown, hts⟩ (k_isElement l G base (v := el)) (cwS 1 hts gX3_twice_X3_isElement rfl rfl rfl (by decide +kernel) ⟨(Nat.le_of_ble_eq_true rfl), (Nat.le_of_ble_eq_true rfl)⟩) (g_ps hK hG) rfl rfl hl.1 rfl (lv_room (Nat.le_of_ble_eq_true rfl)) dX3_twice_10 ⟨(Nat.le_of_ble_eq_true rfl), (Nat.le_of_ble_eq_true rfl)⟩) hG (fun y2 b2 H locs hp hG => ?_)
    obtain ⟨e2, h2⟩ := hp
    subst e2
    refine lv_if_ne (tgt := 20) hx hb dX3_twice_13 (by decide) (fun c2 => ?_) (fun c2 => ?_)
    · have hB := h2.mp (ts_nf (fun z => c2 (bi_0.mpr z)))
      refine lv_aload_n hx hb dX3_twice_20 rfl (lv_at hl 0 rfl) ?_
      refine lv_iload_n hx hb dX3_twice_21 rfl (lv_at hl 1 rfl) ?_
      refine lv_iconst (v := 0) hx hb dX3_twice_22 (by decide) ?_
      refine g_calli (va_runV (As := [.int (nI q), .int 0]) (rest := [.ref (bm 0)]) ⟨hx, hb, hml, hown, hts⟩ (k_hasRoom l G base hM (q := q) (on := false) hq) (cwV 2 hts gX3_twice_X3_hasRoom rfl rfl rfl (by decide +kernel) ⟨(Nat.le_of_ble_eq_true rfl), (Nat.le_of_ble_eq_true rfl)⟩) (g_pv3 hK hG mL0 mK0) rfl rfl hl.1 rfl (lv_room (Nat.le_of_ble_eq_true rfl)) dX3_twice_23 ⟨(Nat.le_of_ble_eq_true rfl), (Nat.le_of_ble_eq_true rfl)⟩) hG (fun y3 b3 H locs hp hG => ?_)
      obtain ⟨e3, h3⟩ := hp
      subst e3
      refine lv_if_eq (tgt := 33) hx hb dX3_twice_26 (by decide) (fun c5 => ?_) (fun c5 => ?_)
      · have hn3 : ¬ b_nd β < 250 := fun z => absurd ((bi_0.mp c5).symm.trans (h3.mpr ⟨z, fun y => Bool.noConfusion y⟩)) (by decide)
        refine lv_iconst (v := 2) hx hb dX3_twice_33 (by decide) ?_
        refine w_Model_thrown hx hb hts (by decide +kernel) hown hK hG mL0 mK0 (hts (.fieldLink RX3 45 "DotStoresModel" "thrown" "I") (by decide +kernel)) dX3_twice_34 (fun H locs hG => ?_)
        obtain ⟨f1, ef1⟩ : ∃ z, z = g_up fI (bm 0) 0 2 := ⟨_, rfl⟩
        replace hG : gw G base s.heap (L, K, n, rI, rJ, rQ, f1, fR) H locs := by rw [ef1]; exact hG
        have hT1 : StpM (L, K, n, rI, rJ, rQ, fI, fR) bm (L, K, n, rI, rJ, rQ, f1, fR) β := repM_F0 hM (by rw [ef1, g_up_i _ _ _ _ (by decide)]) (fun b hb => by rw [ef1, g_up_other _ _ _ hb])
        have hf1 : f1 (bm 0) 0 = 2 := by rw [ef1, g_up_at]
        refine lv_aload_n hx hb dX3_twice_37 rfl (lv_at hl 0 rfl) ?_
        refine r_Model_thrown hx hb hts (by decide +kernel) hown hK hG mL0 mK0 (hts (.fieldLink RX3 45 "DotStoresModel" "thrown" "I") (by decide +kernel)) dX3_twice_38 ?_
        refine lv_topi (fun z2 ez2 => ?_)
        obtain rfl : z2 = 2 := ez2.trans (hf1)
        refine lv_if_le (tgt := 46) hx hb dX3_twice_41 (by decide) (fun c9 => ?_) (fun c9 => ?_)
        · exact absurd c9 (by decide)
        · refine lv_iconst (v := 0) hx hb dX3_twice_44 (by decide) ?_
          refine W.widen (k := 0) (n := 0) (by omega) (by omega) ?_
          exact W.iret (v := 0) hx hb hr (fun t9 h9 hW9 => ⟨⟨0, ((rI, rJ, f1), 2), rfl, ⟨hf1, Or.inr (Or.inl ⟨rfl, ⟨⟨q, hq, rfl⟩, hB⟩, hn3⟩), Or.inr ⟨Nat.succ_ne_zero _, hT1⟩⟩, hG.at h9⟩, hG.2.2.1.F h9⟩) hG.2.2.1.2.2 dX3_twice_45
      · have hlt : b_nd β < 250 := (h3.mp (ts_nf (fun z => c5 (bi_0.mpr z)))).1
        refine lv_iconst (v := 0) hx hb dX3_twice_29 (by decide) ?_
        refine lv_goto (tgt := 34) hx hb dX3_twice_30 (by decide) ?_
        refine w_Model_thrown hx hb hts (by decide +kernel) hown hK hG mL0 mK0 (hts (.fieldLink RX3 45 "DotStoresModel" "thrown" "I") (by decide +kernel)) dX3_twice_34 (fun H locs hG => ?_)
        obtain ⟨f1, ef1⟩ : ∃ z, z = g_up fI (bm 0) 0 0 := ⟨_, rfl⟩
        replace hG : gw G base s.heap (L, K, n, rI, rJ, rQ, f1, fR) H locs := by rw [ef1]; exact hG
        have hT1 : StpM (L, K, n, rI, rJ, rQ, fI, fR) bm (L, K, n, rI, rJ, rQ, f1, fR) β := repM_F0 hM (by rw [ef1, g_up_i _ _ _ _ (by decide)]) (fun b hb => by rw [ef1, g_up_other _ _ _ hb])
        have hf1 : f1 (bm 0) 0 = 0 := by rw [ef1, g_up_at]
        refine lv_aload_n hx hb dX3_twice_37 rfl (lv_at hl 0 rfl) ?_
        refine r_Model_thrown hx hb hts (by decide +kernel) hown hK hG mL0 mK0 (hts (.fieldLink RX3 45 "DotStoresModel" "thrown" "I") (by decide +kernel)) dX3_twice_38 ?_
        refine lv_topi (fun z3 ez3 => ?_)
        obtain rfl : z3 = 0 := ez3.trans (hf1)
        refine lv_if_le (tgt := 46) hx hb dX3_twice_41 (by decide) (fun c9 => ?_) (fun c9 => ?_)
        · refine lv_aload_n hx hb dX3_twice_46 rfl (lv_at hl 0 rfl) ?_
          obtain ⟨ee, hee, rfl⟩ := hB
          refine g_calli (va_runV (As := []) (rest := []) ⟨hx, hb, hml, hown, hts⟩ (k_fresh l G base hT1.1 hlt) (cwV 0 hts gX3_twice_X3_fresh rfl rfl rfl (by decide +kernel) ⟨(Nat.le_of_ble_eq_true rfl), (Nat.le_of_ble_eq_true rfl)⟩) (g_pv3 hK hG mL0 mK0) rfl rfl hl.1 rfl (lv_room (Nat.le_of_ble_eq_true rfl)) dX3_twice_47 ⟨(Nat.le_of_ble_eq_true rfl), (Nat.le_of_ble_eq_true rfl)⟩) hG (fun y7 u H locs hp hG => ?_)
          obtain ⟨i1, j1⟩ := u
          obtain ⟨e7, hF1⟩ := hp
          replace hG : gw G base s.heap (L, K, n, i1, j1, rQ, f1, fR) H locs := hG
          replace e7 : y7 = nI (6 + b_nd β) := e7
          subst e7
          replace hF1 : StpM (L, K, n, rI, rJ, rQ, fI, fR) bm (L, K, n, i1, j1, rQ, f1, fR) (bEmp β (6 + b_nd β)) := hT1.tr hF1
          refine lv_istore (lv' := [(4, .int (nI (6 + b_nd β))), (0, .ref (bm 0)), (1, .int (nI q)), (2, .int (nI ee)), (3, .int (bi on))]) hx hb dX3_twice_50 hl (by decide) rfl (fun ls hl => ?_)
          refine lv_aload_n hx hb dX3_twice_52 rfl (lv_at hl 1 rfl) ?_
          refine r_Model_put hx hb hts (by decide +kernel) hown hK hG mL0 mK0 mf4 (hts (.fieldLink RX3 16 "DotStoresModel" "put" "[I") (by decide +kernel)) dX3_twice_53 ?_
          refine lv_iload hx hb dX3_twice_56 (lv_at hl 0 rfl) ?_
          refine lv_iload_n hx hb dX3_twice_58 rfl (lv_at hl 4 rfl) ?_
          refine lv_if_eq (tgt := 68) hx hb dX3_twice_59 (by decide) (fun c6 => ?_) (fun c6 => ?_)
          · have c6 := bi_0.mp c6
            subst c6
            refine lv_iconst (v := 0) hx hb dX3_twice_68 (by decide) ?_
            refine g_iast hx hb hK hG mL4 mK4 (6 + b_nd β) rfl (by rw [mn4]; omega) (by rw [mn4]; decide) dX3_twice_69 (fun H locs hG => ?_)
            refine lv_aload_n hx hb dX3_twice_70 rfl (lv_at hl 1 rfl) ?_
            refine r_Model_taken hx hb hts (by decide +kernel) hown hK hG mL0 mK0 mf5 (hts (.fieldLink RX3 20 "DotStoresModel" "taken" "[I") (by decide +kernel)) dX3_twice_71 ?_
            refine lv_iload hx hb dX3_twice_74 (lv_at hl 0 rfl) ?_
            refine lv_iload_n hx hb dX3_twice_76 rfl (lv_at hl 4 rfl) ?_
            refine lv_if_eq (tgt := 84) hx hb dX3_twice_77 (by decide) (fun c7 => ?_) (fun c7 => ?_)
            · refine lv_iconst (v := 1) hx hb dX3_twice_84 (by decide) ?_
              refine lv_iload_n hx hb dX3_twice_85 rfl (lv_at hl 3 rfl) ?_
              refine lv_ishl hx hb dX3_twice_86 ?_
              refine g_iast hx hb hK hG mL5 mK5 (6 + b_nd β) rfl (by rw [mn5]; omega) (by rw [mn5]; decide) dX3_twice_87 (fun H locs hG => ?_)
              obtain ⟨i2, ei2⟩ : ∃ z, z = g_up (g_up i1 (bm 4) (6 + b_nd β) (0)) (bm 5) (6 + b_nd β) (1 <<< (nI ee &&& 31)) := ⟨_, rfl⟩
              replace hG : gw G base s.heap (L, K, n, i2, j1, rQ, f1, fR) H locs := by rw [ei2]; exact hG
              have hF2 : StpM (L, K, n, rI, rJ, rQ, fI, fR) bm (L, K, n, i2, j1, rQ, f1, fR) (bPT (bEmp β (6 + b_nd β)) (6 + b_nd β) (0) (1 <<< (nI ee &&& 31))) := hF1.tr (repM_P hF1.1 (k := 6 + b_nd β) (P := 0) (T := 1 <<< (nI ee &&& 31)) (fun j => by rw [ei2]; exact gP4 (isMd_ne hMd (show okM 4 by decide) (show okM 5 by decide) (by decide)) j) (fun j => by rw [ei2]; exact gP5 (isMd_ne hMd (show okM 4 by decide) (show okM 5 by decide) (by decide)) j) (fun b h1 h2 => by rw [ei2]; exact gPo h1 h2))
              refine lv_aload_n hx hb dX3_twice_88 rfl (lv_at hl 1 rfl) ?_
              refine lv_iload_n hx hb dX3_twice_89 rfl (lv_at hl 2 rfl) ?_
              refine lv_iload hx hb dX3_twice_90 (lv_at hl 0 rfl) ?_
              refine g_calli (va_runV (As := [.int (nI q), .int (nI (6 + b_nd β))]) (rest := []) ⟨hx, hb, hml, hown, hts⟩ (k_done l G base hF2.1 (q := q) (k := 6 + b_nd β) (by omega) (by omega) hlt) (cwV 2 hts gX3_twice_X3_done rfl rfl rfl (by decide +kernel) ⟨(Nat.le_of_ble_eq_true rfl), (Nat.le_of_ble_eq_true rfl)⟩) (g_pv3 hK hG mL0 mK0) rfl rfl hl.1 rfl (lv_room (Nat.le_of_ble_eq_true rfl)) dX3_twice_92 ⟨(Nat.le_of_ble_eq_true rfl), (Nat.le_of_ble_eq_true rfl)⟩) hG (fun y9 u H locs hp hG => ?_)
              obtain ⟨i4, j4, f4⟩ := u
              obtain ⟨e9, ef9, hF4⟩ := hp
              replace hG : gw G base s.heap (L, K, n, i4, j4, rQ, f4, fR) H locs := hG
              replace e9 : y9 = nI (b_nd β) := e9
              subst e9
              replace ef9 : f4 (bm 0) 0 = f1 (bm 0) 0 := ef9
              replace hF4 : StpM (L, K, n, rI, rJ, rQ, fI, fR) bm (L, K, n, i4, j4, rQ, f4, fR) (bTwice β q ee false) := hF2.tr hF4
              refine W.widen (k := 0) (n := 0) (by omega) (by omega) ?_
              exact W.iret (v := (nI (b_nd β))) hx hb hr (fun t9 h9 hW9 => ⟨⟨(nI (b_nd β)), ((i4, j4, f4), 0), rfl, ⟨ef9.trans hf1, Or.inr (Or.inr ⟨rfl, ⟨⟨q, hq, rfl⟩, ⟨ee, hee, rfl⟩⟩, hlt⟩), Or.inl ⟨rfl, rfl, q, ee, hq, rfl, hee, rfl, hF4⟩⟩, hG.at h9⟩, hG.2.2.1.F h9⟩) hG.2.2.1.2.2 dX3_twice_95
            · exact absurd rfl c7
          · have c6 := ts_nf (fun z => c6 (bi_0.mpr z))
            subst c6
            refine lv_iconst (v := 1) hx hb dX3_twice_62 (by decide) ?_
            refine lv_iload_n hx hb dX3_twice_63 rfl (lv_at hl 3 rfl) ?_
            refine lv_ishl hx hb dX3_twice_64 ?_
            refine lv_goto (tgt := 69) hx hb dX3_twice_65 (by decide) ?_
            refine g_iast hx hb hK hG mL4 mK4 (6 + b_nd β) rfl (by rw [mn4]; omega) (by rw [mn4]; decide) dX3_twice_69 (fun H locs hG => ?_)
            refine lv_aload_n hx hb dX3_twice_70 rfl (lv_at hl 1 rfl) ?_
            refine r_Model_taken hx hb hts (by decide +kernel) hown hK hG mL0 mK0 mf5 (hts (.fieldLink RX3 20 "DotStoresModel" "taken" "[I") (by decide +kernel)) dX3_twice_71 ?_
            refine lv_iload hx hb dX3_twice_74 (lv_at hl 0 rfl) ?_
            refine lv_iload_n hx hb dX3_twice_76 rfl (lv_at hl 4 rfl) ?_
            refine lv_if_eq (tgt := 84) hx hb dX3_twice_77 (by decide) (fun c7 => ?_) (fun c7 => ?_)
            · exact absurd c7 (by decide)
            · refine lv_iconst (v := 0) hx hb dX3_twice_80 (by decide) ?_
              refine lv_goto (tgt := 87) hx hb dX3_twice_81 (by decide) ?_
              refine g_iast hx hb hK hG mL5 mK5 (6 + b_nd β) rfl (by rw [mn5]; omega) (by rw [mn5]; decide) dX3_twice_87 (fun H locs hG => ?_)
              obtain ⟨i2, ei2⟩ : ∃ z, z = g_up (g_up i1 (bm 4) (6 + b_nd β) (1 <<< (nI ee &&& 31))) (bm 5) (6 + b_nd β) (0) := ⟨_, rfl⟩
              replace hG : gw G base s.heap (L, K, n, i2, j1, rQ, f1, fR) H locs := by rw [ei2]; exact hG
              have hF2 : StpM (L, K, n, rI, rJ, rQ, fI, fR) bm (L, K, n, i2, j1, rQ, f1, fR) (bPT (bEmp β (6 + b_nd β)) (6 + b_nd β) (1 <<< (nI ee &&& 31)) (0)) := hF1.tr (repM_P hF1.1 (k := 6 + b_nd β) (P := 1 <<< (nI ee &&& 31)) (T := 0) (fun j => by rw [ei2]; exact gP4 (isMd_ne hMd (show okM 4 by decide) (show okM 5 by decide) (by decide)) j) (fun j => by rw [ei2]; exact gP5 (isMd_ne hMd (show okM 4 by decide) (show okM 5 by decide) (by decide)) j) (fun b h1 h2 => by rw [ei2]; exact gPo h1 h2))
              refine lv_aload_n hx hb dX3_twice_88 rfl (lv_at hl 1 rfl) ?_
              refine lv_iload_n hx hb dX3_twice_89 rfl (lv_at hl 2 rfl) ?_
              refine lv_iload hx hb dX3_twice_90 (lv_at hl 0 rfl) ?_
              refine g_calli (va_runV (As := [.int (nI q), .int (nI (6 + b_nd β))]) (rest := []) ⟨hx, hb, hml, hown, hts⟩ (k_done l G base hF2.1 (q := q) (k := 6 + b_nd β) (by omega) (by omega) hlt) (cwV 2 hts gX3_twice_X3_done rfl rfl rfl (by decide +kernel) ⟨(Nat.le_of_ble_eq_true rfl), (Nat.le_of_ble_eq_true rfl)⟩) (g_pv3 hK hG mL0 mK0) rfl rfl hl.1 rfl (lv_room (Nat.le_of_ble_eq_true rfl)) dX3_twice_92 ⟨(Nat.le_of_ble_eq_true rfl), (Nat.le_of_ble_eq_true rfl)⟩) hG (fun y9 u H locs hp hG => ?_)
              obtain ⟨i4, j4, f4⟩ := u
              obtain ⟨e9, ef9, hF4⟩ := hp
              replace hG : gw G base s.heap (L, K, n, i4, j4, rQ, f4, fR) H locs := hG
              replace e9 : y9 = nI (b_nd β) := e9
              subst e9
              replace ef9 : f4 (bm 0) 0 = f1 (bm 0) 0 := ef9
              replace hF4 : StpM (L, K, n, rI, rJ, rQ, fI, fR) bm (L, K, n, i4, j4, rQ, f4, fR) (bTwice β q ee true) := hF2.tr hF4
              refine W.widen (k := 0) (n := 0) (by omega) (by omega) ?_
              exact W.iret (v := (nI (b_nd β))) hx hb hr (fun t9 h9 hW9 => ⟨⟨(nI (b_nd β)), ((i4, j4, f4), 0), rfl, ⟨ef9.trans hf1, Or.inr (Or.inr ⟨rfl, ⟨⟨q, hq, rfl⟩, ⟨ee, hee, rfl⟩⟩, hlt⟩), Or.inl ⟨rfl, rfl, q, ee, hq, rfl, hee, rfl, hF4⟩⟩, hG.at h9⟩, hG.2.2.1.F h9⟩) hG.2.2.1.2.2 dX3_twice_95
        · exact absurd (by decide) c9
    · have hno : ¬ (okI (nI q) 6 ∧ okI el 32) := fun z => absurd ((bi_0.mp (by first | exact c2 | exact Classical.not_not.mp c2)).symm.trans (h2.mpr z.2)) (by decide)
      refine lv_iconst (v := 1) hx hb dX3_twice_16 (by decide) ?_
      refine lv_goto (tgt := 34) hx hb dX3_twice_17 (by decide) ?_
      refine w_Model_thrown hx hb hts (by decide +kernel) hown hK hG mL0 mK0 (hts (.fieldLink RX3 45 "DotStoresModel" "thrown" "I") (by decide +kernel)) dX3_twice_34 (fun H locs hG => ?_)
      obtain ⟨f1, ef1⟩ : ∃ z, z = g_up fI (bm 0) 0 1 := ⟨_, rfl⟩
      replace hG : gw G base s.heap (L, K, n, rI, rJ, rQ, f1, fR) H locs := by rw [ef1]; exact hG
      have hT1 : StpM (L, K, n, rI, rJ, rQ, fI, fR) bm (L, K, n, rI, rJ, rQ, f1, fR) β := repM_F0 hM (by rw [ef1, g_up_i _ _ _ _ (by decide)]) (fun b hb => by rw [ef1, g_up_other _ _ _ hb])
      have hf1 : f1 (bm 0) 0 = 1 := by rw [ef1, g_up_at]
      refine lv_aload_n hx hb dX3_twice_37 rfl (lv_at hl 0 rfl) ?_
      refine r_Model_thrown hx hb hts (by decide +kernel) hown hK hG mL0 mK0 (hts (.fieldLink RX3 45 "DotStoresModel" "thrown" "I") (by decide +kernel)) dX3_twice_38 ?_
      refine lv_topi (fun z4 ez4 => ?_)
      obtain rfl : z4 = 1 := ez4.trans (hf1)
      refine lv_if_le (tgt := 46) hx hb dX3_twice_41 (by decide) (fun c9 => ?_) (fun c9 => ?_)
      · exact absurd c9 (by decide)
      · refine lv_iconst (v := 0) hx hb dX3_twice_44 (by decide) ?_
        refine W.widen (k := 0) (n := 0) (by omega) (by omega) ?_
        exact W.iret (v := 0) hx hb hr (fun t9 h9 hW9 => ⟨⟨0, ((rI, rJ, f1), 1), rfl, ⟨hf1, Or.inl ⟨rfl, hno⟩, Or.inr ⟨Nat.succ_ne_zero _, hT1⟩⟩, hG.at h9⟩, hG.2.2.1.F h9⟩) hG.2.2.1.2.2 dX3_twice_45
set_option maxHeartbeats 4000000 in
set_option maxRecDepth 100000 in
/-- timed -/
theorem k_timed (l : Launch) (G : gG) (base : Nat) {L : List Nat} {K n : Nat → Nat} {rI : Nat → Nat → Int32} {rJ : Nat → Nat → Int64} {rQ : Nat → Nat → Option Nat} {fI : Nat → Nat → Int32} {fR : Nat → Nat → Option Nat} {bm : Nat → Nat} {β : bT} (hM : RepM (L, K, n, rI, rJ, rQ, fI, fR) bm β) {v el tm : Int32} {on : Bool} : Met l yX3_timed wsX3_timed ({ frames := 3, cells := 0, slots := 0, locals := 69 }) (va_Pc [.ref (bm 0), .int v, .int el, .int tm, .int (bi on)] (g_Pr G base (L, K, n, rI, rJ, rQ, fI, fR))) (g_Qi G base (fun u : ((Nat → Nat → Int32) × (Nat → Nat → Int64) × (Nat → Nat → Int32)) × Nat => (L, K, n, u.1.1, u.1.2.1, rQ, u.1.2.2, fR)) (fun x u => u.1.2.2 (bm 0) 0 = nI u.2 ∧ ref3 β (okI v 6) (okI el 32) (0 ≤ tm ∧ tm ≤ 1000000) u.2 ∧ ((u.2 = 0 ∧ x = nI (b_nd β) ∧ ∃ q ee, q < 6 ∧ v = nI q ∧ ee < 32 ∧ el = nI ee ∧ StpM (L, K, n, rI, rJ, rQ, fI, fR) bm (L, K, n, u.1.1, u.1.2.1, rQ, u.1.2.2, fR) (bTimed β q ee tm on)) ∨ (u.2 ≠ 0 ∧ StpM (L, K, n, rI, rJ, rQ, fI, fR) bm (L, K, n, u.1.1, u.1.2.1, rQ, u.1.2.2, fR) β)))) 0 0 (g_A base) := by
  have hMd : isMd L K n fR bm := hM.1
  have hMd0 := hMd
  obtain ⟨minj, mL0, mK0, ⟨mf2, mf3, mf4, mf5, mf6, mf7, mf8, mf9, mf10, mf11, mf13⟩, ⟨mL2, mK2, mn2⟩, ⟨mL3, mK3, mn3⟩, ⟨mL4, mK4, mn4⟩, ⟨mL5, mK5, mn5⟩, ⟨mL6, mK6, mn6⟩, ⟨mL7, mK7, mn7⟩, ⟨mL8, mK8, mn8⟩, ⟨mL9, mK9, mn9⟩, ⟨mL10, mK10, mn10⟩, ⟨mL11, mK11, mn11⟩, ⟨mL13, mK13, mn13⟩⟩ := hMd0
  have hdl : fI (bm 0) 1 = nI (b_nd β) := hM.2.1.1
  have hnd : b_nd β ≤ 250 := hM.2.1.2
  refine Met.ofW (cc := cX3_timed) (maxL := 7) (ret := (some .int)) (by decide) rfl ?_
  intro p e s m args below meth c s₁ B hml hv
  obtain ⟨rfl, hPr⟩ := hv
  have hx := B.exec
  have hb := B.bytes
  have hr := B.returns
  have hts := atoms_spec (ws := wsX3_timed) B.pre
  have hown : s.vm.findClass RX3 = some m.cls := findClass_of_methodNamed B.named
  have hlocks := B.notSynchronized
  have hin : meth.name = "timed" := (name_of_methodNamed B.named B.method).1
  have hK := hPr.2.2
  have hG := hPr.gw
  have hl := lv_entry ([.ref (bm 0), .int v, .int el, .int tm, .int (bi on)]) (n := 7) (Nat.le_of_ble_eq_true rfl)
  rw [lg_entry_eq]
  generalize (lg_sl ([.ref (bm 0), .int v, .int el, .int tm, .int (bi on)]) ++ List.replicate (7 - (lg_sl ([.ref (bm 0), .int v, .int el, .int tm, .int (bi on)])).length) Slot.unset).toArray = ls at hl ⊢
  have hl : lv_has ls 7 [(0, .ref (bm 0)), (1, .int v), (2, .int el), (3, .int tm), (4, .int (bi on))] := hl
  refine g_start hPr (fun H locs hG => ?_)
  refine lv_aload_n hx hb dX3_timed_0 rfl (lv_at hl 0 rfl) ?_
  refine lv_aload_n hx hb dX3_timed_1 rfl (lv_at hl 0 rfl) ?_
  refine lv_iload_n hx hb dX3_timed_2 rfl (lv_at hl 1 rfl) ?_
  refine g_calli (va_runV (As := [.int v]) (rest := [.ref (bm 0)]) ⟨hx, hb, hml, hown, hts⟩ (k_isReplica l G base (v := v) (a := bm 0)) (cwV 1 hts gX3_timed_X3_isReplica rfl rfl rfl (by decide +kernel) ⟨(Nat.le_of_ble_eq_true rfl), (Nat.le_of_ble_eq_true rfl)⟩) (g_pv3 hK hG mL0 mK0) rfl rfl hl.1 rfl (lv_room (Nat.le_of_ble_eq_true rfl)) dX3_timed_3 ⟨(Nat.le_of_ble_eq_true rfl), (Nat.le_of_ble_eq_true rfl)⟩) hG (fun y1 b1 H locs hp hG => ?_)
  obtain ⟨e1, h1⟩ := hp
  subst e1
  refine lv_if_eq (tgt := 16) hx hb dX3_timed_6 (by decide) (fun c1 => ?_) (fun c1 => ?_)
  · have hno : ¬ (okI v 6 ∧ okI el 32) := fun z => absurd ((bi_0.mp c1).symm.trans (h1.mpr z.1)) (by decide)
    refine lv_iconst (v := 1) hx hb dX3_timed_16 (by decide) ?_
    refine lv_goto (tgt := 48) hx hb dX3_timed_17 (by decide) ?_
    refine w_Model_thrown hx hb hts (by decide +kernel) hown hK hG mL0 mK0 (hts (.fieldLink RX3 45 "DotStoresModel" "thrown" "I") (by decide +kernel)) dX3_timed_48 (fun H locs hG => ?_)
    obtain ⟨f1, ef1⟩ : ∃ z, z = g_up fI (bm 0) 0 1 := ⟨_, rfl⟩
    replace hG : gw G base s.heap (L, K, n, rI, rJ, rQ, f1, fR) H locs := by rw [ef1]; exact hG
    have hT1 : StpM (L, K, n, rI, rJ, rQ, fI, fR) bm (L, K, n, rI, rJ, rQ, f1, fR) β := repM_F0 hM (by rw [ef1, g_up_i _ _ _ _ (by decide)]) (fun b hb => by rw [ef1, g_up_other _ _ _ hb])
    have hf1 : f1 (bm 0) 0 = 1 := by rw [ef1, g_up_at]
    refine lv_aload_n hx hb dX3_timed_51 rfl (lv_at hl 0 rfl) ?_
    refine r_Model_thrown hx hb hts (by decide +kernel) hown hK hG mL0 mK0 (hts (.fieldLink RX3 45 "DotStoresModel" "thrown" "I") (by decide +kernel)) dX3_timed_52 ?_
    refine lv_topi (fun z1 ez1 => ?_)
    obtain rfl : z1 = 1 := ez1.trans (hf1)
    refine lv_if_le (tgt := 60) hx hb dX3_timed_55 (by decide) (fun c9 => ?_) (fun c9 => ?_)
    · exact absurd c9 (by decide)
    · refine lv_iconst (v := 0) hx hb dX3_timed_58 (by decide) ?_
      refine W.widen (k := 0) (n := 0) (by omega) (by omega) ?_
      exact W.iret (v := 0) hx hb hr (fun t9 h9 hW9 => ⟨⟨0, ((rI, rJ, f1), 1), rfl, ⟨hf1, Or.inl ⟨rfl, hno⟩, Or.inr ⟨Nat.succ_ne_zero _, hT1⟩⟩, hG.at h9⟩, hG.2.2.1.F h9⟩) hG.2.2.1.2.2 dX3_timed_59
  · obtain ⟨q, hq, rfl⟩ := h1.mp (ts_nf (fun z => c1 (bi_0.mpr z)))
    refine lv_iload_n hx hb dX3_timed_9 rfl (lv_at hl 2 rfl) ?_
    refine g_calli (va_runS (As := [.int el]) (rest := [.ref (bm 0)]) ⟨hx, hb, hml, hown, hts⟩ (k_isElement l G base (v := el)) (cwS 1 hts gX3_timed_X3_isElement rfl rfl rfl (by decide +kernel) ⟨(Nat.le_of_ble_eq_true rfl), (Nat.le_of_ble_eq_true rfl)⟩) (g_ps hK hG) rfl rfl hl.1 rfl (lv_room (Nat.le_of_ble_eq_true rfl)) dX3_timed_10 ⟨(Nat.le_of_ble_eq_true rfl), (Nat.le_of_ble_eq_true rfl)⟩) hG (fun y2 b2 H locs hp hG => ?_)
    obtain ⟨e2, h2⟩ := hp
    subst e2
    refine lv_if_ne (tgt := 20) hx hb dX3_timed_13 (by decide) (fun c2 => ?_) (fun c2 => ?_)
    · have hB := h2.mp (ts_nf (fun z => c2 (bi_0.mpr z)))
      refine lv_iload_n hx hb dX3_timed_20 rfl (lv_at hl 3 rfl) ?_
      refine lv_iconst (v := 0) hx hb dX3_timed_21 (by decide) ?_
      refine lv_ldc (v := 1000000) hx hb hown (hts (.constant RX3 131 (1000000)) (by decide +kernel)) dX3_timed_22 ?_
      refine g_calli (va_runS (As := [.int tm, .int 0, .int 1000000]) (rest := [.ref (bm 0)]) ⟨hx, hb, hml, hown, hts⟩ (k_in l G base (v := tm) (lo := 0) (hi := 1000000)) (cwS 3 hts gX3_timed_X3_in rfl rfl rfl (by decide +kernel) ⟨(Nat.le_of_ble_eq_true rfl), (Nat.le_of_ble_eq_true rfl)⟩) (g_ps hK hG) rfl rfl hl.1 rfl (lv_room (Nat.le_of_ble_eq_true rfl)) dX3_timed_24 ⟨(Nat.le_of_ble_eq_true rfl), (Nat.le_of_ble_eq_true rfl)⟩) hG (fun y4 b4 H locs hp hG => ?_)
      obtain ⟨e4, h4⟩ := hp
      subst e4
      refine lv_if_ne (tgt := 34) hx hb dX3_timed_27 (by decide) (fun c4 => ?_) (fun c4 => ?_)
      · have htm := h4.mp (ts_nf (fun z => c4 (bi_0.mpr z)))
        refine lv_aload_n hx hb dX3_timed_34 rfl (lv_at hl 0 rfl) ?_
        refine lv_iload_n hx hb dX3_timed_35 rfl (lv_at hl 1 rfl) ?_
        refine lv_iconst (v := 0) hx hb dX3_timed_36 (by decide) ?_
        refine g_calli (va_runV (As := [.int (nI q), .int 0]) (rest := [.ref (bm 0)]) ⟨hx, hb, hml, hown, hts⟩ (k_hasRoom l G base hM (q := q) (on := false) hq) (cwV 2 hts gX3_timed_X3_hasRoom rfl rfl rfl (by decide +kernel) ⟨(Nat.le_of_ble_eq_true rfl), (Nat.le_of_ble_eq_true rfl)⟩) (g_pv3 hK hG mL0 mK0) rfl rfl hl.1 rfl (lv_room (Nat.le_of_ble_eq_true rfl)) dX3_timed_37 ⟨(Nat.le_of_ble_eq_true rfl), (Nat.le_of_ble_eq_true rfl)⟩) hG (fun y3 b3 H locs hp hG => ?_)
        obtain ⟨e3, h3⟩ := hp
        subst e3
        refine lv_if_eq (tgt := 47) hx hb dX3_timed_40 (by decide) (fun c5 => ?_) (fun c5 => ?_)
        · have hn3 : ¬ b_nd β < 250 := fun z => absurd ((bi_0.mp c5).symm.trans (h3.mpr ⟨z, fun y => Bool.noConfusion y⟩)) (by decide)
          refine lv_iconst (v := 3) hx hb dX3_timed_47 (by decide) ?_
          refine w_Model_thrown hx hb hts (by decide +kernel) hown hK hG mL0 mK0 (hts (.fieldLink RX3 45 "DotStoresModel" "thrown" "I") (by decide +kernel)) dX3_timed_48 (fun H locs hG => ?_)
          obtain ⟨f1, ef1⟩ : ∃ z, z = g_up fI (bm 0) 0 3 := ⟨_, rfl⟩
          replace hG : gw G base s.heap (L, K, n, rI, rJ, rQ, f1, fR) H locs := by rw [ef1]; exact hG
          have hT1 : StpM (L, K, n, rI, rJ, rQ, fI, fR) bm (L, K, n, rI, rJ, rQ, f1, fR) β := repM_F0 hM (by rw [ef1, g_up_i _ _ _ _ (by decide)]) (fun b hb => by rw [ef1, g_up_other _ _ _ hb])
          have hf1 : f1 (bm 0) 0 = 3 := by rw [ef1, g_up_at]
          refine lv_aload_n hx hb dX3_timed_51 rfl (lv_at hl 0 rfl) ?_
          refine r_Model_thrown hx hb hts (by decide +kernel) hown hK hG mL0 mK0 (hts (.fieldLink RX3 45 "DotStoresModel" "thrown" "I") (by decide +kernel)) dX3_timed_52 ?_
          refine lv_topi (fun z2 ez2 => ?_)
          obtain rfl : z2 = 3 := ez2.trans (hf1)
          refine lv_if_le (tgt := 60) hx hb dX3_timed_55 (by decide) (fun c9 => ?_) (fun c9 => ?_)
          · exact absurd c9 (by decide)
          · refine lv_iconst (v := 0) hx hb dX3_timed_58 (by decide) ?_
            refine W.widen (k := 0) (n := 0) (by omega) (by omega) ?_
            exact W.iret (v := 0) hx hb hr (fun t9 h9 hW9 => ⟨⟨0, ((rI, rJ, f1), 3), rfl, ⟨hf1, Or.inr (Or.inr (Or.inl ⟨rfl, ⟨⟨q, hq, rfl⟩, hB⟩, htm, hn3⟩)), Or.inr ⟨Nat.succ_ne_zero _, hT1⟩⟩, hG.at h9⟩, hG.2.2.1.F h9⟩) hG.2.2.1.2.2 dX3_timed_59
        · have hlt : b_nd β < 250 := (h3.mp (ts_nf (fun z => c5 (bi_0.mpr z)))).1
          refine lv_iconst (v := 0) hx hb dX3_timed_43 (by decide) ?_
          refine lv_goto (tgt := 48) hx hb dX3_timed_44 (by decide) ?_
          refine w_Model_thrown hx hb hts (by decide +kernel) hown hK hG mL0 mK0 (hts (.fieldLink RX3 45 "DotStoresModel" "thrown" "I") (by decide +kernel)) dX3_timed_48 (fun H locs hG => ?_)
          obtain ⟨f1, ef1⟩ : ∃ z, z = g_up fI (bm 0) 0 0 := ⟨_, rfl⟩
          replace hG : gw G base s.heap (L, K, n, rI, rJ, rQ, f1, fR) H locs := by rw [ef1]; exact hG
          have hT1 : StpM (L, K, n, rI, rJ, rQ, fI, fR) bm (L, K, n, rI, rJ, rQ, f1, fR) β := repM_F0 hM (by rw [ef1, g_up_i _ _ _ _ (by decide)]) (fun b hb => by rw [ef1, g_up_other _ _ _ hb])
          have hf1 : f1 (bm 0) 0 = 0 := by rw [ef1, g_up_at]
          refine lv_aload_n hx hb dX3_timed_51 rfl (lv_at hl 0 rfl) ?_
          refine r_Model_thrown hx hb hts (by decide +kernel) hown hK hG mL0 mK0 (hts (.fieldLink RX3 45 "DotStoresModel" "thrown" "I") (by decide +kernel)) dX3_timed_52 ?_
          refine lv_topi (fun z3 ez3 => ?_)
          obtain rfl : z3 = 0 := ez3.trans (hf1)
          refine lv_if_le (tgt := 60) hx hb dX3_timed_55 (by decide) (fun c9 => ?_) (fun c9 => ?_)
          · refine lv_aload_n hx hb dX3_timed_60 rfl (lv_at hl 0 rfl) ?_
            obtain ⟨ee, hee, rfl⟩ := hB
            refine g_calli (va_runV (As := []) (rest := []) ⟨hx, hb, hml, hown, hts⟩ (k_fresh l G base hT1.1 hlt) (cwV 0 hts gX3_timed_X3_fresh rfl rfl rfl (by decide +kernel) ⟨(Nat.le_of_ble_eq_true rfl), (Nat.le_of_ble_eq_true rfl)⟩) (g_pv3 hK hG mL0 mK0) rfl rfl hl.1 rfl (lv_room (Nat.le_of_ble_eq_true rfl)) dX3_timed_61 ⟨(Nat.le_of_ble_eq_true rfl), (Nat.le_of_ble_eq_true rfl)⟩) hG (fun y7 u H locs hp hG => ?_)
            obtain ⟨i1, j1⟩ := u
            obtain ⟨e7, hF1⟩ := hp
            replace hG : gw G base s.heap (L, K, n, i1, j1, rQ, f1, fR) H locs := hG
            replace e7 : y7 = nI (6 + b_nd β) := e7
            subst e7
            replace hF1 : StpM (L, K, n, rI, rJ, rQ, fI, fR) bm (L, K, n, i1, j1, rQ, f1, fR) (bEmp β (6 + b_nd β)) := hT1.tr hF1
            refine lv_istore (lv' := [(5, .int (nI (6 + b_nd β))), (0, .ref (bm 0)), (1, .int (nI q)), (2, .int (nI ee)), (3, .int tm), (4, .int (bi on))]) hx hb dX3_timed_64 hl (by decide) rfl (fun ls hl => ?_)
            refine lv_bipush (v := 32) hx hb dX3_timed_66 (by decide) ?_
            refine lv_iload hx hb dX3_timed_68 (lv_at hl 0 rfl) ?_
            refine lv_imul hx hb dX3_timed_70 ?_
            refine lv_iload_n hx hb dX3_timed_71 rfl (lv_at hl 3 rfl) ?_
            refine lv_iadd hx hb dX3_timed_72 ?_
            refine lv_topi (fun z4 ez4 => ?_)
            obtain rfl : z4 = nI (32 * (6 + b_nd β) + ee) := ez4.trans (m32 _ ee)
            refine lv_istore (lv' := [(6, .int (nI (32 * (6 + b_nd β) + ee))), (5, .int (nI (6 + b_nd β))), (0, .ref (bm 0)), (1, .int (nI q)), (2, .int (nI ee)), (3, .int tm), (4, .int (bi on))]) hx hb dX3_timed_73 hl (by decide) rfl (fun ls hl => ?_)
            refine lv_aload_n hx hb dX3_timed_75 rfl (lv_at hl 2 rfl) ?_
            refine r_Model_time hx hb hts (by decide +kernel) hown hK hG mL0 mK0 mf6 (hts (.fieldLink RX3 23 "DotStoresModel" "time" "[I") (by decide +kernel)) dX3_timed_76 ?_
            refine lv_iload hx hb dX3_timed_79 (lv_at hl 0 rfl) ?_
            refine lv_iload_n hx hb dX3_timed_81 rfl (lv_at hl 5 rfl) ?_
            refine lv_iconst (v := 1) hx hb dX3_timed_82 (by decide) ?_
            refine lv_iadd hx hb dX3_timed_83 ?_
            refine g_iast hx hb hK hG mL6 mK6 (32 * (6 + b_nd β) + ee) rfl (by rw [mn6]; omega) (by rw [mn6]; decide) dX3_timed_84 (fun H locs hG => ?_)
            refine lv_aload_n hx hb dX3_timed_85 rfl (lv_at hl 2 rfl) ?_
            refine r_Model_by hx hb hts (by decide +kernel) hown hK hG mL0 mK0 mf7 (hts (.fieldLink RX3 26 "DotStoresModel" "by" "[I") (by decide +kernel)) dX3_timed_86 ?_
            refine lv_iload hx hb dX3_timed_89 (lv_at hl 0 rfl) ?_
            refine lv_iload_n hx hb dX3_timed_91 rfl (lv_at hl 3 rfl) ?_
            refine g_iast hx hb hK hG mL7 mK7 (32 * (6 + b_nd β) + ee) rfl (by rw [mn7]; omega) (by rw [mn7]; decide) dX3_timed_92 (fun H locs hG => ?_)
            refine lv_aload_n hx hb dX3_timed_93 rfl (lv_at hl 2 rfl) ?_
            refine r_Model_isIn hx hb hts (by decide +kernel) hown hK hG mL0 mK0 mf8 (hts (.fieldLink RX3 29 "DotStoresModel" "isIn" "[Z") (by decide +kernel)) dX3_timed_94 ?_
            refine lv_iload hx hb dX3_timed_97 (lv_at hl 0 rfl) ?_
            refine lv_iload hx hb dX3_timed_99 (lv_at hl 6 rfl) ?_
            refine g_zast hx hb hK hG mL8 mK8 (32 * (6 + b_nd β) + ee) rfl (by rw [mn8]; omega) (by rw [mn8]; decide) (bi_vnar on) dX3_timed_101 (fun H locs hG => ?_)
            obtain ⟨i2, ei2⟩ : ∃ z, z = g_up (g_up (g_up i1 (bm 6) (32 * (6 + b_nd β) + ee) (tm + 1)) (bm 7) (32 * (6 + b_nd β) + ee) (nI q)) (bm 8) (32 * (6 + b_nd β) + ee) (bi on) := ⟨_, rfl⟩
            replace hG : gw G base s.heap (L, K, n, i2, j1, rQ, f1, fR) H locs := by rw [ei2]; exact hG
            have hz9 : ∀ w, w < 32 → i1 (bm 6) (32 * (6 + b_nd β) + w) = b_tm (bEmp β (6 + b_nd β)) (6 + b_nd β) w ∧ i1 (bm 7) (32 * (6 + b_nd β) + w) = b_by (bEmp β (6 + b_nd β)) (6 + b_nd β) w ∧ i1 (bm 8) (32 * (6 + b_nd β) + w) = bi (b_in (bEmp β (6 + b_nd β)) (6 + b_nd β) w) := fun w hw => hF1.1.2.2.2.2.1 (6 + b_nd β) (by omega) w hw
            have r6 : i2 (bm 6) = g_up i1 (bm 6) (32 * (6 + b_nd β) + ee) (tm + 1) (bm 6) := by rw [ei2, g_up_other _ _ _ (isMd_ne hMd (show okM 6 by decide) (show okM 8 by decide) (by decide)), g_up_other _ _ _ (isMd_ne hMd (show okM 6 by decide) (show okM 7 by decide) (by decide))]
            have r7 : i2 (bm 7) = g_up i1 (bm 7) (32 * (6 + b_nd β) + ee) (nI q) (bm 7) := by rw [ei2, g_up_other _ _ _ (isMd_ne hMd (show okM 7 by decide) (show okM 8 by decide) (by decide)), g_up_same, g_up_same, g_up_other _ _ _ (isMd_ne hMd (show okM 7 by decide) (show okM 6 by decide) (by decide))]
            have r8 : i2 (bm 8) = g_up i1 (bm 8) (32 * (6 + b_nd β) + ee) (bi on) (bm 8) := by rw [ei2, g_up_same, g_up_same, g_up_other _ _ _ (isMd_ne hMd (show okM 8 by decide) (show okM 7 by decide) (by decide)), g_up_other _ _ _ (isMd_ne hMd (show okM 8 by decide) (show okM 6 by decide) (by decide))]
            have h8 : upR (i1 (bm 8)) (i2 (bm 8)) (32 * (6 + b_nd β)) 32 (fun i => bi (u1 (b_in (bEmp β (6 + b_nd β)) (6 + b_nd β)) ee on i)) := by
              rw [r8]
              refine upR_F (upR_1 hee (fun w hw => (hz9 w hw).2.2)) (fun w hw => ?_)
              by_cases z : w = ee
              · subst z; rw [u1_at, u1_at]
              · rw [u1_ne _ _ z, u1_ne _ _ z]
            have hF2 : StpM (L, K, n, rI, rJ, rQ, fI, fR) bm (L, K, n, i2, j1, rQ, f1, fR) (bTI (bEmp β (6 + b_nd β)) (6 + b_nd β) (u1 (b_tm (bEmp β (6 + b_nd β)) (6 + b_nd β)) ee (tm + 1)) (u1 (b_by (bEmp β (6 + b_nd β)) (6 + b_nd β)) ee (nI q)) (u1 (b_in (bEmp β (6 + b_nd β)) (6 + b_nd β)) ee on)) := hF1.tr (repM_T hF1.1 (show 6 + b_nd β < 257 by omega) (by rw [r6]; exact upR_1 hee (fun w hw => (hz9 w hw).1)) (by rw [r7]; exact upR_1 hee (fun w hw => (hz9 w hw).2.1)) h8 (fun c h1 h2 h3 => by rw [ei2]; exact g3o h1 h2 h3))
            refine lv_aload_n hx hb dX3_timed_102 rfl (lv_at hl 2 rfl) ?_
            refine lv_iload_n hx hb dX3_timed_103 rfl (lv_at hl 3 rfl) ?_
            refine lv_iload hx hb dX3_timed_104 (lv_at hl 1 rfl) ?_
            refine g_calli (va_runV (As := [.int (nI q), .int (nI (6 + b_nd β))]) (rest := []) ⟨hx, hb, hml, hown, hts⟩ (k_done l G base hF2.1 (q := q) (k := 6 + b_nd β) (by omega) (by omega) hlt) (cwV 2 hts gX3_timed_X3_done rfl rfl rfl (by decide +kernel) ⟨(Nat.le_of_ble_eq_true rfl), (Nat.le_of_ble_eq_true rfl)⟩) (g_pv3 hK hG mL0 mK0) rfl rfl hl.1 rfl (lv_room (Nat.le_of_ble_eq_true rfl)) dX3_timed_106 ⟨(Nat.le_of_ble_eq_true rfl), (Nat.le_of_ble_eq_true rfl)⟩) hG (fun y9 u H locs hp hG => ?_)
            obtain ⟨i4, j4, f4⟩ := u
            obtain ⟨e9, ef9, hF4⟩ := hp
            replace hG : gw G base s.heap (L, K, n, i4, j4, rQ, f4, fR) H locs := hG
            replace e9 : y9 = nI (b_nd β) := e9
            subst e9
            replace ef9 : f4 (bm 0) 0 = f1 (bm 0) 0 := ef9
            replace hF4 : StpM (L, K, n, rI, rJ, rQ, fI, fR) bm (L, K, n, i4, j4, rQ, f4, fR) (bTimed β q ee tm on) := hF2.tr hF4
            refine W.widen (k := 0) (n := 0) (by omega) (by omega) ?_
            exact W.iret (v := (nI (b_nd β))) hx hb hr (fun t9 h9 hW9 => ⟨⟨(nI (b_nd β)), ((i4, j4, f4), 0), rfl, ⟨ef9.trans hf1, Or.inr (Or.inr (Or.inr ⟨rfl, ⟨⟨q, hq, rfl⟩, ⟨ee, hee, rfl⟩⟩, htm, hlt⟩)), Or.inl ⟨rfl, rfl, q, ee, hq, rfl, hee, rfl, hF4⟩⟩, hG.at h9⟩, hG.2.2.1.F h9⟩) hG.2.2.1.2.2 dX3_timed_109
          · exact absurd (by decide) c9
      · have hnt : ¬ (0 ≤ tm ∧ tm ≤ 1000000) := fun z => absurd ((bi_0.mp (by first | exact c4 | exact Classical.not_not.mp c4)).symm.trans (h4.mpr z)) (by decide)
        refine lv_iconst (v := 2) hx hb dX3_timed_30 (by decide) ?_
        refine lv_goto (tgt := 48) hx hb dX3_timed_31 (by decide) ?_
        refine w_Model_thrown hx hb hts (by decide +kernel) hown hK hG mL0 mK0 (hts (.fieldLink RX3 45 "DotStoresModel" "thrown" "I") (by decide +kernel)) dX3_timed_48 (fun H locs hG => ?_)
        obtain ⟨f1, ef1⟩ : ∃ z, z = g_up fI (bm 0) 0 2 := ⟨_, rfl⟩
        replace hG : gw G base s.heap (L, K, n, rI, rJ, rQ, f1, fR) H locs := by rw [ef1]; exact hG
        have hT1 : StpM (L, K, n, rI, rJ, rQ, fI, fR) bm (L, K, n, rI, rJ, rQ, f1, fR) β := repM_F0 hM (by rw [ef1, g_up_i _ _ _ _ (by decide)]) (fun b hb => by rw [ef1, g_up_other _ _ _ hb])
        have hf1 : f1 (bm 0) 0 = 2 := by rw [ef1, g_up_at]
        refine lv_aload_n hx hb dX3_timed_51 rfl (lv_at hl 0 rfl) ?_
        refine r_Model_thrown hx hb hts (by decide +kernel) hown hK hG mL0 mK0 (hts (.fieldLink RX3 45 "DotStoresModel" "thrown" "I") (by decide +kernel)) dX3_timed_52 ?_
        refine lv_topi (fun z5 ez5 => ?_)
        obtain rfl : z5 = 2 := ez5.trans (hf1)
        refine lv_if_le (tgt := 60) hx hb dX3_timed_55 (by decide) (fun c9 => ?_) (fun c9 => ?_)
        · exact absurd c9 (by decide)
        · refine lv_iconst (v := 0) hx hb dX3_timed_58 (by decide) ?_
          refine W.widen (k := 0) (n := 0) (by omega) (by omega) ?_
          exact W.iret (v := 0) hx hb hr (fun t9 h9 hW9 => ⟨⟨0, ((rI, rJ, f1), 2), rfl, ⟨hf1, Or.inr (Or.inl ⟨rfl, ⟨⟨q, hq, rfl⟩, hB⟩, hnt⟩), Or.inr ⟨Nat.succ_ne_zero _, hT1⟩⟩, hG.at h9⟩, hG.2.2.1.F h9⟩) hG.2.2.1.2.2 dX3_timed_59
    · have hno : ¬ (okI (nI q) 6 ∧ okI el 32) := fun z => absurd ((bi_0.mp (by first | exact c2 | exact Classical.not_not.mp c2)).symm.trans (h2.mpr z.2)) (by decide)
      refine lv_iconst (v := 1) hx hb dX3_timed_16 (by decide) ?_
      refine lv_goto (tgt := 48) hx hb dX3_timed_17 (by decide) ?_
      refine w_Model_thrown hx hb hts (by decide +kernel) hown hK hG mL0 mK0 (hts (.fieldLink RX3 45 "DotStoresModel" "thrown" "I") (by decide +kernel)) dX3_timed_48 (fun H locs hG => ?_)
      obtain ⟨f1, ef1⟩ : ∃ z, z = g_up fI (bm 0) 0 1 := ⟨_, rfl⟩
      replace hG : gw G base s.heap (L, K, n, rI, rJ, rQ, f1, fR) H locs := by rw [ef1]; exact hG
      have hT1 : StpM (L, K, n, rI, rJ, rQ, fI, fR) bm (L, K, n, rI, rJ, rQ, f1, fR) β := repM_F0 hM (by rw [ef1, g_up_i _ _ _ _ (by decide)]) (fun b hb => by rw [ef1, g_up_other _ _ _ hb])
      have hf1 : f1 (bm 0) 0 = 1 := by rw [ef1, g_up_at]
      refine lv_aload_n hx hb dX3_timed_51 rfl (lv_at hl 0 rfl) ?_
      refine r_Model_thrown hx hb hts (by decide +kernel) hown hK hG mL0 mK0 (hts (.fieldLink RX3 45 "DotStoresModel" "thrown" "I") (by decide +kernel)) dX3_timed_52 ?_
      refine lv_topi (fun z6 ez6 => ?_)
      obtain rfl : z6 = 1 := ez6.trans (hf1)
      refine lv_if_le (tgt := 60) hx hb dX3_timed_55 (by decide) (fun c9 => ?_) (fun c9 => ?_)
      · exact absurd c9 (by decide)
      · refine lv_iconst (v := 0) hx hb dX3_timed_58 (by decide) ?_
        refine W.widen (k := 0) (n := 0) (by omega) (by omega) ?_
        exact W.iret (v := 0) hx hb hr (fun t9 h9 hW9 => ⟨⟨0, ((rI, rJ, f1), 1), rfl, ⟨hf1, Or.inl ⟨rfl, hno⟩, Or.inr ⟨Nat.succ_ne_zero _, hT1⟩⟩, hG.at h9⟩, hG.2.2.1.F h9⟩) hG.2.2.1.2.2 dX3_timed_59
