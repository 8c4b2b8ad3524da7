theorem bi_vnar (b : Bool) : vp_nar .boolean (bi b) = bi b := by cases b <;> rfl
set_option maxHeartbeats 4000000 in
set_option maxRecDepth 100000 in
/-- copyTimed -/
theorem k_copyTimed (l : Launch) (G : gG) (base : Nat) {L : List Nat} {K n : Nat → Nat} {rI : Nat → Nat → Int32} {rJ : Nat → Nat → Int64} {rQ : Nat → Nat → Option Nat} {fI : Nat → Nat → Int32} {fR : Nat → Nat → Option Nat} {bm : Nat → Nat} (hMd : isMd L K n fR bm) {i j : Nat} (hi : i < 8224) (hj : j < 8224) {zz : Bool} (hz : rI (bm 8) i = bi zz) : Met l yX3_copyTimed wsX3_copyTimed ({ frames := 0, cells := 0, slots := 0, locals := 0 }) (va_Pc [.ref (bm 0), .int (nI i), .int (nI j)] (g_Pr G base (L, K, n, rI, rJ, rQ, fI, fR))) (g_Qv G base (fun _ : Unit => (L, K, n, (g_up (g_up (g_up rI (bm 6) j (rI (bm 6) i)) (bm 7) j (rI (bm 7) i)) (bm 8) j (bi zz)), rJ, rQ, fI, fR)) (fun _ => True)) 0 0 (g_A base) := by
  have hMd0 := hMd
  obtain ⟨minj, mL0, mK0, ⟨mf2, mf3, mf4, mf5, mf6, mf7, mf8, mf9, mf10, mf11, mf13⟩, ⟨mL2, mK2, mn2⟩, ⟨mL3, mK3, mn3⟩, ⟨mL4, mK4, mn4⟩, ⟨mL5, mK5, mn5⟩, ⟨mL6, mK6, mn6⟩, ⟨mL7, mK7, mn7⟩, ⟨mL8, mK8, mn8⟩, ⟨mL9, mK9, mn9⟩, ⟨mL10, mK10, mn10⟩, ⟨mL11, mK11, mn11⟩, ⟨mL13, mK13, mn13⟩⟩ := hMd0
  refine Met.ofW (cc := cX3_copyTimed) (maxL := 3) (ret := none) (by decide) rfl ?_
  intro p e s m args below meth c s₁ B hml hv
  obtain ⟨rfl, hPr⟩ := hv
  have hx := B.exec
  have hb := B.bytes
  have hr := B.returns
  have hts := atoms_spec (ws := wsX3_copyTimed) B.pre
  have hown : s.vm.findClass RX3 = some m.cls := findClass_of_methodNamed B.named
  have hlocks := B.notSynchronized
  have hin : meth.name = "copyTimed" := (name_of_methodNamed B.named B.method).1
  have hK := hPr.2.2
  have hG := hPr.gw
  have hl := lv_entry ([.ref (bm 0), .int (nI i), .int (nI j)]) (n := 3) (Nat.le_of_ble_eq_true rfl)
  rw [lg_entry_eq]
  generalize (lg_sl ([.ref (bm 0), .int (nI i), .int (nI j)]) ++ List.replicate (3 - (lg_sl ([.ref (bm 0), .int (nI i), .int (nI j)])).length) Slot.unset).toArray = ls at hl ⊢
  have hl : lv_has ls 3 [(0, .ref (bm 0)), (1, .int (nI i)), (2, .int (nI j))] := hl
  refine g_start hPr (fun H locs hG => ?_)
  refine lv_aload_n hx hb dX3_copyTimed_0 rfl (lv_at hl 0 rfl) ?_
  refine r_Model_time hx hb hts (by decide +kernel) hown hK hG mL0 mK0 mf6 (hts (.fieldLink RX3 23 "DotStoresModel" "time" "[I") (by decide +kernel)) dX3_copyTimed_1 ?_
  refine lv_iload_n hx hb dX3_copyTimed_4 rfl (lv_at hl 2 rfl) ?_
  refine lv_aload_n hx hb dX3_copyTimed_5 rfl (lv_at hl 0 rfl) ?_
  refine r_Model_time hx hb hts (by decide +kernel) hown hK hG mL0 mK0 mf6 (hts (.fieldLink RX3 23 "DotStoresModel" "time" "[I") (by decide +kernel)) dX3_copyTimed_6 ?_
  refine lv_iload_n hx hb dX3_copyTimed_9 rfl (lv_at hl 1 rfl) ?_
  refine g_iald hx hb hK hG mL6 mK6 (i) rfl (by rw [mn6]; omega) (by rw [mn6]; decide) dX3_copyTimed_10 ?_
  refine g_iast hx hb hK hG mL6 mK6 (j) rfl (by rw [mn6]; omega) (by rw [mn6]; decide) dX3_copyTimed_11 (fun H locs hG => ?_)
  refine lv_aload_n hx hb dX3_copyTimed_12 rfl (lv_at hl 0 rfl) ?_
  refine r_Model_by hx hb hts (by decide +kernel) hown hK hG mL0 mK0 mf7 (hts (.fieldLink RX3 26 "DotStoresModel" "by" "[I") (by decide +kernel)) dX3_copyTimed_13 ?_
  refine lv_iload_n hx hb dX3_copyTimed_16 rfl (lv_at hl 2 rfl) ?_
  refine lv_aload_n hx hb dX3_copyTimed_17 rfl (lv_at hl 0 rfl) ?_
  refine r_Model_by hx hb hts (by decide +kernel) hown hK hG mL0 mK0 mf7 (hts (.fieldLink RX3 26 "DotStoresModel" "by" "[I") (by decide +kernel)) dX3_copyTimed_18 ?_
  refine lv_iload_n hx hb dX3_copyTimed_21 rfl (lv_at hl 1 rfl) ?_
  refine g_iald hx hb hK hG mL7 mK7 (i) rfl (by rw [mn7]; omega) (by rw [mn7]; decide) dX3_copyTimed_22 ?_
  refine lv_topi (fun z1 ez1 => ?_)
  obtain rfl : z1 = rI (bm 7) i := ez1.trans (g_up_b _ _ _ _ (isMd_ne hMd (show okM 7 by decide) (show okM 6 by decide) (by decide)))
  refine g_iast hx hb hK hG mL7 mK7 (j) rfl (by rw [mn7]; omega) (by rw [mn7]; decide) dX3_copyTimed_23 (fun H locs hG => ?_)
  refine lv_aload_n hx hb dX3_copyTimed_24 rfl (lv_at hl 0 rfl) ?_
  refine r_Model_isIn hx hb hts (by decide +kernel) hown hK hG mL0 mK0 mf8 (hts (.fieldLink RX3 29 "DotStoresModel" "isIn" "[Z") (by decide +kernel)) dX3_copyTimed_25 ?_
  refine lv_iload_n hx hb dX3_copyTimed_28 rfl (lv_at hl 2 rfl) ?_
  refine lv_aload_n hx hb dX3_copyTimed_29 rfl (lv_at hl 0 rfl) ?_
  refine r_Model_isIn hx hb hts (by decide +kernel) hown hK hG mL0 mK0 mf8 (hts (.fieldLink RX3 29 "DotStoresModel" "isIn" "[Z") (by decide +kernel)) dX3_copyTimed_30 ?_
  refine lv_iload_n hx hb dX3_copyTimed_33 rfl (lv_at hl 1 rfl) ?_
  refine g_zald hx hb hK hG mL8 mK8 (i) rfl (by rw [mn8]; omega) (by rw [mn8]; decide) dX3_copyTimed_34 ?_
  refine lv_topi (fun z2 ez2 => ?_)
  obtain rfl : z2 = bi zz := ez2.trans ((by rw [g_up_b _ _ _ _ (isMd_ne hMd (show okM 8 by decide) (show okM 7 by decide) (by decide)), g_up_b _ _ _ _ (isMd_ne hMd (show okM 8 by decide) (show okM 6 by decide) (by decide))]; exact hz))
  refine g_zast hx hb hK hG mL8 mK8 (j) rfl (by rw [mn8]; omega) (by rw [mn8]; decide) (bi_vnar zz) dX3_copyTimed_35 (fun H locs hG => ?_)
  refine W.widen (k := 0) (n := 0) (by omega) (by omega) ?_
  exact W.vret hx hb hr (fun t9 h9 hW9 => ⟨⟨(), rfl, trivial, hG.at h9⟩, hG.2.2.1.F h9⟩) hG.2.2.1.2.2 dX3_copyTimed_36
set_option maxHeartbeats 4000000 in
set_option maxRecDepth 100000 in
/-- isAfter -/
theorem k_isAfter (l : Launch) (G : gG) (base : Nat) {L : List Nat} {K n : Nat → Nat} {rI : Nat → Nat → Int32} {rJ : Nat → Nat → Int64} {rQ : Nat → Nat → Option Nat} {fI : Nat → Nat → Int32} {fR : Nat → Nat → Option Nat} {bm : Nat → Nat} (hMd : isMd L K n fR bm) {i j : Nat} (hi : i < 8224) (hj : j < 8224) {zi zj : Bool} (hzi : rI (bm 8) i = bi zi) (hzj : rI (bm 8) j = bi zj) : Met l yX3_isAfter wsX3_isAfter ({ frames := 0, cells := 0, slots := 0, locals := 0 }) (va_Pc [.ref (bm 0), .int (nI i), .int (nI j)] (g_Pr G base (L, K, n, rI, rJ, rQ, fI, fR))) (g_Qi G base (fun _ : Unit => (L, K, n, rI, rJ, rQ, fI, fR)) (fun x _ => x = bi (aftV (rI (bm 6) i) (rI (bm 7) i) zi (rI (bm 6) j) (rI (bm 7) j) zj))) 0 0 (g_A base) := by
  have hMd0 := hMd
  obtain ⟨minj, mL0, mK0, ⟨mf2, mf3, mf4, mf5, mf6, mf7, mf8, mf9, mf10, mf11, mf13⟩, ⟨mL2, mK2, mn2⟩, ⟨mL3, mK3, mn3⟩, ⟨mL4, mK4, mn4⟩, ⟨mL5, mK5, mn5⟩, ⟨mL6, mK6, mn6⟩, ⟨mL7, mK7, mn7⟩, ⟨mL8, mK8, mn8⟩, ⟨mL9, mK9, mn9⟩, ⟨mL10, mK10, mn10⟩, ⟨mL11, mK11, mn11⟩, ⟨mL13, mK13, mn13⟩⟩ := hMd0
  refine Met.ofW (cc := cX3_isAfter) (maxL := 3) (ret := (some .boolean)) (by decide) rfl ?_
  intro p e s m args below meth c s₁ B hml hv
  obtain ⟨rfl, hPr⟩ := hv
  have hx := B.exec
  have hb := B.bytes
  have hr := B.returns
  have hts := atoms_spec (ws := wsX3_isAfter) B.pre
  have hown : s.vm.findClass RX3 = some m.cls := findClass_of_methodNamed B.named
  have hlocks := B.notSynchronized
  have hin : meth.name = "isAfter" := (name_of_methodNamed B.named B.method).1
  have hK := hPr.2.2
  have hG := hPr.gw
  have hl := lv_entry ([.ref (bm 0), .int (nI i), .int (nI j)]) (n := 3) (Nat.le_of_ble_eq_true rfl)
  rw [lg_entry_eq]
  generalize (lg_sl ([.ref (bm 0), .int (nI i), .int (nI j)]) ++ List.replicate (3 - (lg_sl ([.ref (bm 0), .int (nI i), .int (nI j)])).length) Slot.unset).toArray = ls at hl ⊢
  have hl : lv_has ls 3 [(0, .ref (bm 0)), (1, .int (nI i)), (2, .int (nI j))] := hl
  refine g_start hPr (fun H locs hG => ?_)
  refine lv_aload_n hx hb dX3_isAfter_0 rfl (lv_at hl 0 rfl) ?_
  refine r_Model_time hx hb hts (by decide +kernel) hown hK hG mL0 mK0 mf6 (hts (.fieldLink RX3 23 "DotStoresModel" "time" "[I") (by decide +kernel)) dX3_isAfter_1 ?_
  refine lv_iload_n hx hb dX3_isAfter_4 rfl (lv_at hl 1 rfl) ?_
  refine g_iald hx hb hK hG mL6 mK6 (i) rfl (by rw [mn6]; omega) (by rw [mn6]; decide) dX3_isAfter_5 ?_
  refine lv_aload_n hx hb dX3_isAfter_6 rfl (lv_at hl 0 rfl) ?_
  refine r_Model_time hx hb hts (by decide +kernel) hown hK hG mL0 mK0 mf6 (hts (.fieldLink RX3 23 "DotStoresModel" "time" "[I") (by decide +kernel)) dX3_isAfter_7 ?_
  refine lv_iload_n hx hb dX3_isAfter_10 rfl (lv_at hl 2 rfl) ?_
  refine g_iald hx hb hK hG mL6 mK6 (j) rfl (by rw [mn6]; omega) (by rw [mn6]; decide) dX3_isAfter_11 ?_
  refine lv_icmp_eq (tgt := 36) hx hb dX3_isAfter_12 (by decide) (fun c1 => ?_) (fun c1 => ?_)
  · refine lv_aload_n hx hb dX3_isAfter_36 rfl (lv_at hl 0 rfl) ?_
    refine r_Model_by hx hb hts (by decide +kernel) hown hK hG mL0 mK0 mf7 (hts (.fieldLink RX3 26 "DotStoresModel" "by" "[I") (by decide +kernel)) dX3_isAfter_37 ?_
    refine lv_iload_n hx hb dX3_isAfter_40 rfl (lv_at hl 1 rfl) ?_
    refine g_iald hx hb hK hG mL7 mK7 (i) rfl (by rw [mn7]; omega) (by rw [mn7]; decide) dX3_isAfter_41 ?_
    refine lv_aload_n hx hb dX3_isAfter_42 rfl (lv_at hl 0 rfl) ?_
    refine r_Model_by hx hb hts (by decide +kernel) hown hK hG mL0 mK0 mf7 (hts (.fieldLink RX3 26 "DotStoresModel" "by" "[I") (by decide +kernel)) dX3_isAfter_43 ?_
    refine lv_iload_n hx hb dX3_isAfter_46 rfl (lv_at hl 2 rfl) ?_
    refine g_iald hx hb hK hG mL7 mK7 (j) rfl (by rw [mn7]; omega) (by rw [mn7]; decide) dX3_isAfter_47 ?_
    refine lv_icmp_eq (tgt := 72) hx hb dX3_isAfter_48 (by decide) (fun c4 => ?_) (fun c4 => ?_)
    · refine lv_aload_n hx hb dX3_isAfter_72 rfl (lv_at hl 0 rfl) ?_
      refine r_Model_isIn hx hb hts (by decide +kernel) hown hK hG mL0 mK0 mf8 (hts (.fieldLink RX3 29 "DotStoresModel" "isIn" "[Z") (by decide +kernel)) dX3_isAfter_73 ?_
      refine lv_iload_n hx hb dX3_isAfter_76 rfl (lv_at hl 1 rfl) ?_
      refine g_zald hx hb hK hG mL8 mK8 (i) rfl (by rw [mn8]; omega) (by rw [mn8]; decide) dX3_isAfter_77 ?_
      refine lv_topi (fun z1 ez1 => ?_)
      obtain rfl : z1 = bi zi := ez1.trans (hzi)
      refine lv_if_eq (tgt := 94) hx hb dX3_isAfter_78 (by decide) (fun c6 => ?_) (fun c6 => ?_)
      · have c6 := bi_0.mp c6
        refine lv_iconst (v := 0) hx hb dX3_isAfter_94 (by decide) ?_
        refine W.widen (k := 0) (n := 0) (by omega) (by omega) ?_
        exact W.zret (v := 0) hx hb hr rfl (fun t9 h9 hW9 => ⟨⟨0, (), rfl, (by unfold aftV; rw [if_pos c1, if_pos c4, c6]; rfl), hG.at h9⟩, hG.2.2.1.F h9⟩) hG.2.2.1.2.2 dX3_isAfter_95
      · have c6 := ts_nf (fun z => c6 (bi_0.mpr z))
        refine lv_aload_n hx hb dX3_isAfter_81 rfl (lv_at hl 0 rfl) ?_
        refine r_Model_isIn hx hb hts (by decide +kernel) hown hK hG mL0 mK0 mf8 (hts (.fieldLink RX3 29 "DotStoresModel" "isIn" "[Z") (by decide +kernel)) dX3_isAfter_82 ?_
        refine lv_iload_n hx hb dX3_isAfter_85 rfl (lv_at hl 2 rfl) ?_
        refine g_zald hx hb hK hG mL8 mK8 (j) rfl (by rw [mn8]; omega) (by rw [mn8]; decide) dX3_isAfter_86 ?_
        refine lv_topi (fun z2 ez2 => ?_)
        obtain rfl : z2 = bi zj := ez2.trans (hzj)
        refine lv_if_ne (tgt := 94) hx hb dX3_isAfter_87 (by decide) (fun c7 => ?_) (fun c7 => ?_)
        · have c7 := ts_nf (fun z => c7 (bi_0.mpr z))
          refine lv_iconst (v := 0) hx hb dX3_isAfter_94 (by decide) ?_
          refine W.widen (k := 0) (n := 0) (by omega) (by omega) ?_
          exact W.zret (v := 0) hx hb hr rfl (fun t9 h9 hW9 => ⟨⟨0, (), rfl, (by unfold aftV; rw [if_pos c1, if_pos c4, c6, c7]; rfl), hG.at h9⟩, hG.2.2.1.F h9⟩) hG.2.2.1.2.2 dX3_isAfter_95
        · have c7 := bi_0.mp (by first | exact c7 | exact Classical.not_not.mp c7)
          refine lv_iconst (v := 1) hx hb dX3_isAfter_90 (by decide) ?_
          refine lv_goto (tgt := 95) hx hb dX3_isAfter_91 (by decide) ?_
          refine W.widen (k := 0) (n := 0) (by omega) (by omega) ?_
          exact W.zret (v := 1) hx hb hr rfl (fun t9 h9 hW9 => ⟨⟨1, (), rfl, (by unfold aftV; rw [if_pos c1, if_pos c4, c6, c7]; rfl), hG.at h9⟩, hG.2.2.1.F h9⟩) hG.2.2.1.2.2 dX3_isAfter_95
    · refine lv_aload_n hx hb dX3_isAfter_51 rfl (lv_at hl 0 rfl) ?_
      refine r_Model_by hx hb hts (by decide +kernel) hown hK hG mL0 mK0 mf7 (hts (.fieldLink RX3 26 "DotStoresModel" "by" "[I") (by decide +kernel)) dX3_isAfter_52 ?_
      refine lv_iload_n hx hb dX3_isAfter_55 rfl (lv_at hl 1 rfl) ?_
      refine g_iald hx hb hK hG mL7 mK7 (i) rfl (by rw [mn7]; omega) (by rw [mn7]; decide) dX3_isAfter_56 ?_
      refine lv_aload_n hx hb dX3_isAfter_57 rfl (lv_at hl 0 rfl) ?_
      refine r_Model_by hx hb hts (by decide +kernel) hown hK hG mL0 mK0 mf7 (hts (.fieldLink RX3 26 "DotStoresModel" "by" "[I") (by decide +kernel)) dX3_isAfter_58 ?_
      refine lv_iload_n hx hb dX3_isAfter_61 rfl (lv_at hl 2 rfl) ?_
      refine g_iald hx hb hK hG mL7 mK7 (j) rfl (by rw [mn7]; omega) (by rw [mn7]; decide) dX3_isAfter_62 ?_
      refine lv_icmp_le (tgt := 70) hx hb dX3_isAfter_63 (by decide) (fun c5 => ?_) (fun c5 => ?_)
      · have c3 : ¬ rI (bm 7) j < rI (bm 7) i := Int32.not_lt.mpr c5
        refine lv_iconst (v := 0) hx hb dX3_isAfter_70 (by decide) ?_
        refine W.widen (k := 0) (n := 0) (by omega) (by omega) ?_
        exact W.zret (v := 0) hx hb hr rfl (fun t9 h9 hW9 => ⟨⟨0, (), rfl, (by unfold aftV; rw [if_pos c1, if_neg c4, decide_eq_false c3]; rfl), hG.at h9⟩, hG.2.2.1.F h9⟩) hG.2.2.1.2.2 dX3_isAfter_71
      · have c3 : rI (bm 7) j < rI (bm 7) i := Int32.not_le.mp c5
        refine lv_iconst (v := 1) hx hb dX3_isAfter_66 (by decide) ?_
        refine lv_goto (tgt := 71) hx hb dX3_isAfter_67 (by decide) ?_
        refine W.widen (k := 0) (n := 0) (by omega) (by omega) ?_
        exact W.zret (v := 1) hx hb hr rfl (fun t9 h9 hW9 => ⟨⟨1, (), rfl, (by unfold aftV; rw [if_pos c1, if_neg c4, decide_eq_true c3]; rfl), hG.at h9⟩, hG.2.2.1.F h9⟩) hG.2.2.1.2.2 dX3_isAfter_71
  · have c1 : ¬ rI (bm 6) i = rI (bm 6) j := c1
    refine lv_aload_n hx hb dX3_isAfter_15 rfl (lv_at hl 0 rfl) ?_
    refine r_Model_time hx hb hts (by decide +kernel) hown hK hG mL0 mK0 mf6 (hts (.fieldLink RX3 23 "DotStoresModel" "time" "[I") (by decide +kernel)) dX3_isAfter_16 ?_
    refine lv_iload_n hx hb dX3_isAfter_19 rfl (lv_at hl 1 rfl) ?_
    refine g_iald hx hb hK hG mL6 mK6 (i) rfl (by rw [mn6]; omega) (by rw [mn6]; decide) dX3_isAfter_20 ?_
    refine lv_aload_n hx hb dX3_isAfter_21 rfl (lv_at hl 0 rfl) ?_
    refine r_Model_time hx hb hts (by decide +kernel) hown hK hG mL0 mK0 mf6 (hts (.fieldLink RX3 23 "DotStoresModel" "time" "[I") (by decide +kernel)) dX3_isAfter_22 ?_
    refine lv_iload_n hx hb dX3_isAfter_25 rfl (lv_at hl 2 rfl) ?_
    refine g_iald hx hb hK hG mL6 mK6 (j) rfl (by rw [mn6]; omega) (by rw [mn6]; decide) dX3_isAfter_26 ?_
    refine lv_icmp_le (tgt := 34) hx hb dX3_isAfter_27 (by decide) (fun c2 => ?_) (fun c2 => ?_)
    · have c3 : ¬ rI (bm 6) j < rI (bm 6) i := Int32.not_lt.mpr c2
      refine lv_iconst (v := 0) hx hb dX3_isAfter_34 (by decide) ?_
      refine W.widen (k := 0) (n := 0) (by omega) (by omega) ?_
      exact W.zret (v := 0) hx hb hr rfl (fun t9 h9 hW9 => ⟨⟨0, (), rfl, (by unfold aftV; rw [if_neg c1, decide_eq_false c3]; rfl), hG.at h9⟩, hG.2.2.1.F h9⟩) hG.2.2.1.2.2 dX3_isAfter_35
    · have c3 : rI (bm 6) j < rI (bm 6) i := Int32.not_le.mp c2
      refine lv_iconst (v := 1) hx hb dX3_isAfter_30 (by decide) ?_
      refine lv_goto (tgt := 35) hx hb dX3_isAfter_31 (by decide) ?_
      refine W.widen (k := 0) (n := 0) (by omega) (by omega) ?_
      exact W.zret (v := 1) hx hb hr rfl (fun t9 h9 hW9 => ⟨⟨1, (), rfl, (by unfold aftV; rw [if_neg c1, decide_eq_true c3]; rfl), hG.at h9⟩, hG.2.2.1.F h9⟩) hG.2.2.1.2.2 dX3_isAfter_35
set_option maxHeartbeats 4000000 in
set_option maxRecDepth 100000 in
/-- empty -/
theorem k_empty (l : Launch) (G : gG) (base : Nat) {L : List Nat} {K n : Nat → Nat} {rI : Nat → Nat → Int32} {rJ : Nat → Nat → Int64} {rQ : Nat → Nat → Option Nat} {fI : Nat → Nat → Int32} {fR : Nat → Nat → Option Nat} {bm : Nat → Nat} {β : bT} (hM : RepM (L, K, n, rI, rJ, rQ, fI, fR) bm β) {k : Nat} (hk : k < 257) : Met l yX3_empty wsX3_empty ({ frames := 0, cells := 0, slots := 0, locals := 0 }) (va_Pc [.ref (bm 0), .int (nI k)] (g_Pr G base (L, K, n, rI, rJ, rQ, fI, fR))) (g_Qv G base (fun u : (Nat → Nat → Int32) × (Nat → Nat → Int64) => (L, K, n, u.1, u.2, rQ, fI, fR)) (fun u => StpM (L, K, n, rI, rJ, rQ, fI, fR) bm (L, K, n, u.1, u.2, rQ, fI, fR) (bEmp β k))) 0 0 (g_A base) := by
  have hMd : isMd L K n fR bm := hM.1
  have hMd0 := hMd
  obtain ⟨minj, mL0, mK0, ⟨mf2, mf3, mf4, mf5, mf6, mf7, mf8, mf9, mf10, mf11, mf13⟩, ⟨mL2, mK2, mn2⟩, ⟨mL3, mK3, mn3⟩, ⟨mL4, mK4, mn4⟩, ⟨mL5, mK5, mn5⟩, ⟨mL6, mK6, mn6⟩, ⟨mL7, mK7, mn7⟩, ⟨mL8, mK8, mn8⟩, ⟨mL9, mK9, mn9⟩, ⟨mL10, mK10, mn10⟩, ⟨mL11, mK11, mn11⟩, ⟨mL13, mK13, mn13⟩⟩ := hMd0
  have hdl : fI (bm 0) 1 = nI (b_nd β) := hM.2.1.1
  have hnd : b_nd β ≤ 250 := hM.2.1.2
  refine Met.ofW (cc := cX3_empty) (maxL := 3) (ret := none) (by decide) rfl ?_
  intro p e s m args below meth c s₁ B hml hv
  obtain ⟨rfl, hPr⟩ := hv
  have hx := B.exec
  have hb := B.bytes
  have hr := B.returns
  have hts := atoms_spec (ws := wsX3_empty) B.pre
  have hown : s.vm.findClass RX3 = some m.cls := findClass_of_methodNamed B.named
  have hlocks := B.notSynchronized
  have hin : meth.name = "empty" := (name_of_methodNamed B.named B.method).1
  have hK := hPr.2.2
  have hG := hPr.gw
  have hl := lv_entry ([.ref (bm 0), .int (nI k)]) (n := 3) (Nat.le_of_ble_eq_true rfl)
  rw [lg_entry_eq]
  generalize (lg_sl ([.ref (bm 0), .int (nI k)]) ++ List.replicate (3 - (lg_sl ([.ref (bm 0), .int (nI k)])).length) Slot.unset).toArray = ls at hl ⊢
  have hl : lv_has ls 3 [(0, .ref (bm 0)), (1, .int (nI k))] := hl
  refine g_start hPr (fun H locs hG => ?_)
  refine lv_iconst (v := 0) hx hb dX3_empty_0 (by decide) ?_
  refine lv_istore_n (lv' := [(2, .int 0), (0, .ref (bm 0)), (1, .int (nI k))]) hx hb dX3_empty_1 rfl hl (by decide) rfl (fun ls hl => ?_)
  obtain ⟨w, ew⟩ : ∃ z : Nat, z = 0 := ⟨_, rfl⟩
  obtain ⟨r1, er1⟩ : ∃ z : Nat → Nat → Int64, z = rJ := ⟨_, rfl⟩
  replace hl : lv_has ls 3 [(0, .ref (bm 0)), (1, .int (nI k)), (2, .int (nI w))] := by subst ew er1; exact (lv_sub hl [1, 2, 0] rfl)
  replace hG : gw G base s.heap (L, K, n, rI, r1, rQ, fI, fR) H locs := by subst ew er1; exact hG
  have inv : w ≤ 12 ∧ upR (rJ (bm 2)) (r1 (bm 2)) (12 * k) w (fun _ => 0) ∧ upR (rJ (bm 3)) (r1 (bm 3)) (12 * k) w (fun _ => 0) ∧ (∀ b, b ≠ bm 2 → b ≠ bm 3 → r1 b = rJ b) := by
    subst ew er1
    exact ⟨by omega, upR_0, upR_0, fun _ _ _ => rfl⟩
  have hf : 12 < w + 13 := by omega
  clear ew er1
  generalize 13 = d at hf
  induction d generalizing w r1 H locs ls with
  | zero => exact absurd hf (by have := inv.1; omega)
  | succ d ih =>
    refine lv_iload_n hx hb dX3_empty_2 rfl (lv_at hl 2 rfl) ?_
    refine lv_bipush (v := 12) hx hb dX3_empty_3 (by decide) ?_
    refine lv_icmp_ge (tgt := 38) hx hb dX3_empty_5 (by decide) (fun c0 => ?_) (fun c0 => ?_)
    · have hw : w = 12 := by
        rcases Nat.lt_or_ge w 12 with q | q
        · exact absurd c0 (nI_ge q (by decide))
        · omega
      subst hw
      clear ih hf
      have hJ1 : StpM (L, K, n, rI, rJ, rQ, fI, fR) bm (L, K, n, rI, r1, rQ, fI, fR) (bSL β k (fun _ => false) (fun _ => false)) := repM_J hM hk inv.2.1 inv.2.2.1 inv.2.2.2 (fun i hi => rb_0 (fun _ => rfl) i) (fun i hi => rb_0 (fun _ => rfl) i)
      clear inv
      refine lv_aload_n hx hb dX3_empty_38 rfl (lv_at hl 0 rfl) ?_
      refine r_Model_put hx hb hts (by decide +kernel) hown hK hG mL0 mK0 mf4 (hts (.fieldLink RX3 16 "DotStoresModel" "put" "[I") (by decide +kernel)) dX3_empty_39 ?_
      refine lv_iload_n hx hb dX3_empty_42 rfl (lv_at hl 1 rfl) ?_
      refine lv_iconst (v := 0) hx hb dX3_empty_43 (by decide) ?_
      refine g_iast hx hb hK hG mL4 mK4 (k) rfl (by rw [mn4]; omega) (by rw [mn4]; decide) dX3_empty_44 (fun H locs hG => ?_)
      refine lv_aload_n hx hb dX3_empty_45 rfl (lv_at hl 0 rfl) ?_
      refine r_Model_taken hx hb hts (by decide +kernel) hown hK hG mL0 mK0 mf5 (hts (.fieldLink RX3 20 "DotStoresModel" "taken" "[I") (by decide +kernel)) dX3_empty_46 ?_
      refine lv_iload_n hx hb dX3_empty_49 rfl (lv_at hl 1 rfl) ?_
      refine lv_iconst (v := 0) hx hb dX3_empty_50 (by decide) ?_
      refine g_iast hx hb hK hG mL5 mK5 (k) rfl (by rw [mn5]; omega) (by rw [mn5]; decide) dX3_empty_51 (fun H locs hG => ?_)
      obtain ⟨r2, er2⟩ : ∃ z, z = g_up (g_up rI (bm 4) k (0)) (bm 5) k (0) := ⟨_, rfl⟩
      replace hG : gw G base s.heap (L, K, n, r2, r1, rQ, fI, fR) H locs := by rw [er2]; exact hG
      have hP1 : StpM (L, K, n, rI, rJ, rQ, fI, fR) bm (L, K, n, r2, r1, rQ, fI, fR) (bPT (bSL β k (fun _ => false) (fun _ => false)) k 0 0) := hJ1.tr (repM_P hJ1.1 (k := k) (P := 0) (T := 0) (fun j => by rw [er2]; exact gP4 (isMd_ne hMd (show okM 4 by decide) (show okM 5 by decide) (by decide)) j) (fun j => by rw [er2]; exact gP5 (isMd_ne hMd (show okM 4 by decide) (show okM 5 by decide) (by decide)) j) (fun b h1 h2 => by rw [er2]; exact gPo h1 h2))
      have hM2 := hP1.1
      refine lv_iconst (v := 0) hx hb dX3_empty_52 (by decide) ?_
      refine lv_istore_n (lv' := [(2, .int 0), (0, .ref (bm 0)), (1, .int (nI k))]) hx hb dX3_empty_53 rfl hl (by decide) rfl (fun ls hl => ?_)
      obtain ⟨w, ew⟩ : ∃ z : Nat, z = 0 := ⟨_, rfl⟩
      obtain ⟨r3, er3⟩ : ∃ z : Nat → Nat → Int32, z = r2 := ⟨_, rfl⟩
      replace hl : lv_has ls 3 [(0, .ref (bm 0)), (1, .int (nI k)), (2, .int (nI w))] := by subst ew er3; exact (lv_sub hl [1, 2, 0] rfl)
      replace hG : gw G base s.heap (L, K, n, r3, r1, rQ, fI, fR) H locs := by subst ew er3; exact hG
      have inv : w ≤ 32 ∧ upR (r2 (bm 6)) (r3 (bm 6)) (32 * k) w (fun _ => 0) ∧ upR (r2 (bm 7)) (r3 (bm 7)) (32 * k) w (fun _ => 0) ∧ upR (r2 (bm 8)) (r3 (bm 8)) (32 * k) w (fun _ => bi false) ∧ (∀ b, b ≠ bm 6 → b ≠ bm 7 → b ≠ bm 8 → r3 b = r2 b) := by
        subst ew er3
        exact ⟨by omega, upR_0, upR_0, upR_0, fun _ _ _ _ => rfl⟩
      have hf : 32 < w + 33 := by omega
      clear ew er3
      generalize 33 = d at hf
      induction d generalizing w r3 H locs ls with
      | zero => exact absurd hf (by have := inv.1; omega)
      | succ d ih =>
        refine lv_iload_n hx hb dX3_empty_54 rfl (lv_at hl 2 rfl) ?_
        refine lv_bipush (v := 32) hx hb dX3_empty_55 (by decide) ?_
        refine lv_icmp_ge (tgt := 102) hx hb dX3_empty_57 (by decide) (fun c9 => ?_) (fun c9 => ?_)
        · have hw : w = 32 := by
            rcases Nat.lt_or_ge w 32 with q | q
            · exact absurd c9 (nI_ge q (by decide))
            · omega
          subst hw
          refine W.widen (k := 0) (n := 0) (by omega) (by omega) ?_
          exact W.vret hx hb hr (fun t9 h9 hW9 => ⟨⟨(r3, r1), rfl, hP1.tr (repM_T (z := fun _ => false) hM2 hk inv.2.1 inv.2.2.1 inv.2.2.2.1 inv.2.2.2.2), hG.at h9⟩, hG.2.2.1.F h9⟩) hG.2.2.1.2.2 dX3_empty_102
        · have hw : w < 32 := by
            rcases Nat.lt_or_ge w 32 with q | q
            · exact q
            · exact absurd (nI_le (a := 32) q (by omega)) c9
          refine lv_aload_n hx hb dX3_empty_60 rfl (lv_at hl 0 rfl) ?_
          refine r_Model_time hx hb hts (by decide +kernel) hown hK hG mL0 mK0 mf6 (hts (.fieldLink RX3 23 "DotStoresModel" "time" "[I") (by decide +kernel)) dX3_empty_61 ?_
          refine lv_bipush (v := 32) hx hb dX3_empty_64 (by decide) ?_
          refine lv_iload_n hx hb dX3_empty_66 rfl (lv_at hl 1 rfl) ?_
          refine lv_imul hx hb dX3_empty_67 ?_
          refine lv_iload_n hx hb dX3_empty_68 rfl (lv_at hl 2 rfl) ?_
          refine lv_iadd hx hb dX3_empty_69 ?_
          refine lv_topi (fun z1 ez1 => ?_)
          obtain rfl : z1 = nI (32 * k + w) := ez1.trans (m32 k w)
          refine lv_iconst (v := 0) hx hb dX3_empty_70 (by decide) ?_
          refine g_iast hx hb hK hG mL6 mK6 (32 * k + w) rfl (by rw [mn6]; omega) (by rw [mn6]; decide) dX3_empty_71 (fun H locs hG => ?_)
          refine lv_aload_n hx hb dX3_empty_72 rfl (lv_at hl 0 rfl) ?_
          refine r_Model_by hx hb hts (by decide +kernel) hown hK hG mL0 mK0 mf7 (hts (.fieldLink RX3 26 "DotStoresModel" "by" "[I") (by decide +kernel)) dX3_empty_73 ?_
          refine lv_bipush (v := 32) hx hb dX3_empty_76 (by decide) ?_
          refine lv_iload_n hx hb dX3_empty_78 rfl (lv_at hl 1 rfl) ?_
          refine lv_imul hx hb dX3_empty_79 ?_
          refine lv_iload_n hx hb dX3_empty_80 rfl (lv_at hl 2 rfl) ?_
          refine lv_iadd hx hb dX3_empty_81 ?_
          refine lv_topi (fun z2 ez2 => ?_)
          obtain rfl : z2 = nI (32 * k + w) := ez2.trans (m32 k w)
          refine lv_iconst (v := 0) hx hb dX3_empty_82 (by decide) ?_
          refine g_iast hx hb hK hG mL7 mK7 (32 * k + w) rfl (by rw [mn7]; omega) (by rw [mn7]; decide) dX3_empty_83 (fun H locs hG => ?_)
          refine lv_aload_n hx hb dX3_empty_84 rfl (lv_at hl 0 rfl) ?_
          refine r_Model_isIn hx hb hts (by decide +kernel) hown hK hG mL0 mK0 mf8 (hts (.fieldLink RX3 29 "DotStoresModel" "isIn" "[Z") (by decide +kernel)) dX3_empty_85 ?_
          refine lv_bipush (v := 32) hx hb dX3_empty_88 (by decide) ?_
          refine lv_iload_n hx hb dX3_empty_90 rfl (lv_at hl 1 rfl) ?_
          refine lv_imul hx hb dX3_empty_91 ?_
          refine lv_iload_n hx hb dX3_empty_92 rfl (lv_at hl 2 rfl) ?_
          refine lv_iadd hx hb dX3_empty_93 ?_
          refine lv_topi (fun z3 ez3 => ?_)
          obtain rfl : z3 = nI (32 * k + w) := ez3.trans (m32 k w)
          refine lv_iconst (v := 0) hx hb dX3_empty_94 (by decide) ?_
          refine g_zast hx hb hK hG mL8 mK8 (32 * k + w) rfl (by rw [mn8]; omega) (by rw [mn8]; decide) (rfl) dX3_empty_95 (fun H locs hG => ?_)
          refine lv_iinc (v := (nI (w + 1))) (lv' := [(2, .int (nI (w + 1))), (0, .ref (bm 0)), (1, .int (nI k))]) hx hb dX3_empty_96 hl (k := 2) rfl (nI_1 w) (by decide) rfl (fun ls hl => ?_)
          refine lv_goto (tgt := 54) hx hb dX3_empty_99 (by decide) ?_
          exact ih (w := w + 1) (hl := (lv_sub hl [1, 2, 0] rfl)) (hG := hG) (inv := ⟨by omega, (upR_3 (isMd_ne hMd (show okM 6 by decide) (show okM 7 by decide) (by decide)) (isMd_ne hMd (show okM 6 by decide) (show okM 8 by decide) (by decide)) (isMd_ne hMd (show okM 7 by decide) (show okM 8 by decide) (by decide)) inv.2.1 inv.2.2.1 inv.2.2.2.1 rfl rfl rfl).1, (upR_3 (isMd_ne hMd (show okM 6 by decide) (show okM 7 by decide) (by decide)) (isMd_ne hMd (show okM 6 by decide) (show okM 8 by decide) (by decide)) (isMd_ne hMd (show okM 7 by decide) (show okM 8 by decide) (by decide)) inv.2.1 inv.2.2.1 inv.2.2.2.1 rfl rfl rfl).2.1, (upR_3 (isMd_ne hMd (show okM 6 by decide) (show okM 7 by decide) (by decide)) (isMd_ne hMd (show okM 6 by decide) (show okM 8 by decide) (by decide)) (isMd_ne hMd (show okM 7 by decide) (show okM 8 by decide) (by decide)) inv.2.1 inv.2.2.1 inv.2.2.2.1 rfl rfl rfl).2.2, fun b h1 h2 h3 => by rw [g3o h1 h2 h3]; exact inv.2.2.2.2 b h1 h2 h3⟩) (hf := by omega)
    · have hw : w < 12 := by
        rcases Nat.lt_or_ge w 12 with q | q
        · exact q
        · exact absurd (nI_le (a := 12) q (by omega)) c0
      refine lv_aload_n hx hb dX3_empty_8 rfl (lv_at hl 0 rfl) ?_
      refine r_Model_seen hx hb hts (by decide +kernel) hown hK hG mL0 mK0 mf2 (hts (.fieldLink RX3 7 "DotStoresModel" "seen" "[J") (by decide +kernel)) dX3_empty_9 ?_
      refine lv_bipush (v := 12) hx hb dX3_empty_12 (by decide) ?_
      refine lv_iload_n hx hb dX3_empty_14 rfl (lv_at hl 1 rfl) ?_
      refine lv_imul hx hb dX3_empty_15 ?_
      refine lv_iload_n hx hb dX3_empty_16 rfl (lv_at hl 2 rfl) ?_
      refine lv_iadd hx hb dX3_empty_17 ?_
      refine lv_topi (fun z4 ez4 => ?_)
      obtain rfl : z4 = nI (12 * k + w) := ez4.trans (m12 k w)
      refine lv_lconst (v := 0) hx hb dX3_empty_18 (by decide) ?_
      refine g_last hx hb hK hG mL2 mK2 (12 * k + w) rfl (by rw [mn2]; omega) (by rw [mn2]; decide) dX3_empty_19 (fun H locs hG => ?_)
      refine lv_aload_n hx hb dX3_empty_20 rfl (lv_at hl 0 rfl) ?_
      refine r_Model_live hx hb hts (by decide +kernel) hown hK hG mL0 mK0 mf3 (hts (.fieldLink RX3 13 "DotStoresModel" "live" "[J") (by decide +kernel)) dX3_empty_21 ?_
      refine lv_bipush (v := 12) hx hb dX3_empty_24 (by decide) ?_
      refine lv_iload_n hx hb dX3_empty_26 rfl (lv_at hl 1 rfl) ?_
      refine lv_imul hx hb dX3_empty_27 ?_
      refine lv_iload_n hx hb dX3_empty_28 rfl (lv_at hl 2 rfl) ?_
      refine lv_iadd hx hb dX3_empty_29 ?_
      refine lv_topi (fun z5 ez5 => ?_)
      obtain rfl : z5 = nI (12 * k + w) := ez5.trans (m12 k w)
      refine lv_lconst (v := 0) hx hb dX3_empty_30 (by decide) ?_
      refine g_last hx hb hK hG mL3 mK3 (12 * k + w) rfl (by rw [mn3]; omega) (by rw [mn3]; decide) dX3_empty_31 (fun H locs hG => ?_)
      refine lv_iinc (v := (nI (w + 1))) (lv' := [(2, .int (nI (w + 1))), (0, .ref (bm 0)), (1, .int (nI k))]) hx hb dX3_empty_32 hl (k := 2) rfl (nI_1 w) (by decide) rfl (fun ls hl => ?_)
      refine lv_goto (tgt := 2) hx hb dX3_empty_35 (by decide) ?_
      exact ih (w := w + 1) (hl := (lv_sub hl [1, 2, 0] rfl)) (hG := hG) (inv := ⟨by omega, (upR_2 (isMd_ne hMd (show okM 2 by decide) (show okM 3 by decide) (by decide)) inv.2.1 inv.2.2.1 rfl rfl).1, (upR_2 (isMd_ne hMd (show okM 2 by decide) (show okM 3 by decide) (by decide)) inv.2.1 inv.2.2.1 rfl rfl).2, fun b h1 h2 => by rw [g_up_other _ _ _ h2, g_up_other _ _ _ h1]; exact inv.2.2.2 b h1 h2⟩) (hf := by omega)
set_option maxHeartbeats 4000000 in
set_option maxRecDepth 100000 in
/-- copy -/
theorem k_copy (l : Launch) (G : gG) (base : Nat) {L : List Nat} {K n : Nat → Nat} {rI : Nat → Nat → Int32} {rJ : Nat → Nat → Int64} {rQ : Nat → Nat → Option Nat} {fI : Nat → Nat → Int32} {fR : Nat → Nat → Option Nat} {bm : Nat → Nat} {β : bT} (hM : RepM (L, K, n, rI, rJ, rQ, fI, fR) bm β) {o k : Nat} (ho : o < 257) (hk : k < 257) : Met l yX3_copy wsX3_copy ({ frames := 1, cells := 0, slots := 0, locals := 22 }) (va_Pc [.ref (bm 0), .int (nI o), .int (nI k)] (g_Pr G base (L, K, n, rI, rJ, rQ, fI, fR))) (g_Qv G base (fun u : (Nat → Nat → Int32) × (Nat → Nat → Int64) => (L, K, n, u.1, u.2, rQ, fI, fR)) (fun u => StpM (L, K, n, rI, rJ, rQ, fI, fR) bm (L, K, n, u.1, u.2, rQ, fI, fR) (bCopy β o k))) 0 0 (g_A base) := by
  have hMd : isMd L K n fR bm := hM.1
  have hMd0 := hMd
  obtain ⟨minj, mL0, mK0, ⟨mf2, mf3, mf4, mf5, mf6, mf7, mf8, mf9, mf10, mf11, mf13⟩, ⟨mL2, mK2, mn2⟩, ⟨mL3, mK3, mn3⟩, ⟨mL4, mK4, mn4⟩, ⟨mL5, mK5, mn5⟩, ⟨mL6, mK6, mn6⟩, ⟨mL7, mK7, mn7⟩, ⟨mL8, mK8, mn8⟩, ⟨mL9, mK9, mn9⟩, ⟨mL10, mK10, mn10⟩, ⟨mL11, mK11, mn11⟩, ⟨mL13, mK13, mn13⟩⟩ := hMd0
  have hdl : fI (bm 0) 1 = nI (b_nd β) := hM.2.1.1
  have hnd : b_nd β ≤ 250 := hM.2.1.2
  refine Met.ofW (cc := cX3_copy) (maxL := 4) (ret := none) (by decide) rfl ?_
  intro p e s m args below meth c s₁ B hml hv
  obtain ⟨rfl, hPr⟩ := hv
  have hx := B.exec
  have hb := B.bytes
  have hr := B.returns
  have hts := atoms_spec (ws := wsX3_copy) B.pre
  have hown : s.vm.findClass RX3 = some m.cls := findClass_of_methodNamed B.named
  have hlocks := B.notSynchronized
  have hin : meth.name = "copy" := (name_of_methodNamed B.named B.method).1
  have hK := hPr.2.2
  have hG := hPr.gw
  have hl := lv_entry ([.ref (bm 0), .int (nI o), .int (nI k)]) (n := 4) (Nat.le_of_ble_eq_true rfl)
  rw [lg_entry_eq]
  generalize (lg_sl ([.ref (bm 0), .int (nI o), .int (nI k)]) ++ List.replicate (4 - (lg_sl ([.ref (bm 0), .int (nI o), .int (nI k)])).length) Slot.unset).toArray = ls at hl ⊢
  have hl : lv_has ls 4 [(0, .ref (bm 0)), (1, .int (nI o)), (2, .int (nI k))] := hl
  refine g_start hPr (fun H locs hG => ?_)
  refine lv_iconst (v := 0) hx hb dX3_copy_0 (by decide) ?_
  refine lv_istore_n (lv' := [(3, .int 0), (0, .ref (bm 0)), (1, .int (nI o)), (2, .int (nI k))]) hx hb dX3_copy_1 rfl hl (by decide) rfl (fun ls hl => ?_)
  obtain ⟨w, ew⟩ : ∃ z : Nat, z = 0 := ⟨_, rfl⟩
  obtain ⟨r1, er1⟩ : ∃ z : Nat → Nat → Int64, z = rJ := ⟨_, rfl⟩
  replace hl : lv_has ls 4 [(0, .ref (bm 0)), (1, .int (nI o)), (2, .int (nI k)), (3, .int (nI w))] := by subst ew er1; exact (lv_sub hl [1, 2, 3, 0] rfl)
  replace hG : gw G base s.heap (L, K, n, rI, r1, rQ, fI, fR) H locs := by subst ew er1; exact hG
  have inv : w ≤ 12 ∧ upR (rJ (bm 2)) (r1 (bm 2)) (12 * k) w (fun v => rJ (bm 2) (12 * o + v)) ∧ upR (rJ (bm 3)) (r1 (bm 3)) (12 * k) w (fun v => rJ (bm 3) (12 * o + v)) ∧ (∀ b, b ≠ bm 2 → b ≠ bm 3 → r1 b = rJ b) := by
    subst ew er1
    exact ⟨by omega, upR_0, upR_0, fun _ _ _ => rfl⟩
  have hf : 12 < w + 13 := by omega
  clear ew er1
  generalize 13 = d at hf
  induction d generalizing w r1 H locs ls with
  | zero => exact absurd hf (by have := inv.1; omega)
  | succ d ih =>
    refine lv_iload_n hx hb dX3_copy_2 rfl (lv_at hl 3 rfl) ?_
    refine lv_bipush (v := 12) hx hb dX3_copy_3 (by decide) ?_
    refine lv_icmp_ge (tgt := 58) hx hb dX3_copy_5 (by decide) (fun c0 => ?_) (fun c0 => ?_)
    · have hw : w = 12 := by
        rcases Nat.lt_or_ge w 12 with q | q
        · exact absurd c0 (nI_ge q (by decide))
        · omega
      subst hw
      clear ih hf
      have hJ1 : StpM (L, K, n, rI, rJ, rQ, fI, fR) bm (L, K, n, rI, r1, rQ, fI, fR) (bSL β k (b_S β o) (b_L β o)) := repM_J hM hk inv.2.1 inv.2.2.1 inv.2.2.2 (fun i hi => (hM.2.2.1 o ho i hi).1) (fun i hi => (hM.2.2.1 o ho i hi).2)
      clear inv
      refine lv_aload_n hx hb dX3_copy_58 rfl (lv_at hl 0 rfl) ?_
      refine r_Model_put hx hb hts (by decide +kernel) hown hK hG mL0 mK0 mf4 (hts (.fieldLink RX3 16 "DotStoresModel" "put" "[I") (by decide +kernel)) dX3_copy_59 ?_
      refine lv_iload_n hx hb dX3_copy_62 rfl (lv_at hl 2 rfl) ?_
      refine lv_aload_n hx hb dX3_copy_63 rfl (lv_at hl 0 rfl) ?_
      refine r_Model_put hx hb hts (by decide +kernel) hown hK hG mL0 mK0 mf4 (hts (.fieldLink RX3 16 "DotStoresModel" "put" "[I") (by decide +kernel)) dX3_copy_64 ?_
      refine lv_iload_n hx hb dX3_copy_67 rfl (lv_at hl 1 rfl) ?_
      refine g_iald hx hb hK hG mL4 mK4 (o) rfl (by rw [mn4]; omega) (by rw [mn4]; decide) dX3_copy_68 ?_
      refine lv_topi (fun z1 ez1 => ?_)
      obtain rfl : z1 = b_P β o := ez1.trans ((hM.2.2.2.1 o ho).1)
      refine g_iast hx hb hK hG mL4 mK4 (k) rfl (by rw [mn4]; omega) (by rw [mn4]; decide) dX3_copy_69 (fun H locs hG => ?_)
      refine lv_aload_n hx hb dX3_copy_70 rfl (lv_at hl 0 rfl) ?_
      refine r_Model_taken hx hb hts (by decide +kernel) hown hK hG mL0 mK0 mf5 (hts (.fieldLink RX3 20 "DotStoresModel" "taken" "[I") (by decide +kernel)) dX3_copy_71 ?_
      refine lv_iload_n hx hb dX3_copy_74 rfl (lv_at hl 2 rfl) ?_
      refine lv_aload_n hx hb dX3_copy_75 rfl (lv_at hl 0 rfl) ?_
      refine r_Model_taken hx hb hts (by decide +kernel) hown hK hG mL0 mK0 mf5 (hts (.fieldLink RX3 20 "DotStoresModel" "taken" "[I") (by decide +kernel)) dX3_copy_76 ?_
      refine lv_iload_n hx hb dX3_copy_79 rfl (lv_at hl 1 rfl) ?_
      refine g_iald hx hb hK hG mL5 mK5 (o) rfl (by rw [mn5]; omega) (by rw [mn5]; decide) dX3_copy_80 ?_
      refine lv_topi (fun z2 ez2 => ?_)
      obtain rfl : z2 = b_T β o := ez2.trans ((by rw [g_up_b _ _ _ _ (isMd_ne hMd (show okM 5 by decide) (show okM 4 by decide) (by decide))]; exact (hM.2.2.2.1 o ho).2))
      refine g_iast hx hb hK hG mL5 mK5 (k) rfl (by rw [mn5]; omega) (by rw [mn5]; decide) dX3_copy_81 (fun H locs hG => ?_)
      obtain ⟨r2, er2⟩ : ∃ z, z = g_up (g_up rI (bm 4) k (b_P β o)) (bm 5) k (b_T β o) := ⟨_, rfl⟩
      replace hG : gw G base s.heap (L, K, n, r2, r1, rQ, fI, fR) H locs := by rw [er2]; exact hG
      have hP1 : StpM (L, K, n, rI, rJ, rQ, fI, fR) bm (L, K, n, r2, r1, rQ, fI, fR) (bPT (bSL β k (b_S β o) (b_L β o)) k (b_P β o) (b_T β o)) := hJ1.tr (repM_P hJ1.1 (k := k) (P := b_P β o) (T := b_T β o) (fun j => by rw [er2]; exact gP4 (isMd_ne hMd (show okM 4 by decide) (show okM 5 by decide) (by decide)) j) (fun j => by rw [er2]; exact gP5 (isMd_ne hMd (show okM 4 by decide) (show okM 5 by decide) (by decide)) j) (fun b h1 h2 => by rw [er2]; exact gPo h1 h2))
      have hM2 := hP1.1
      refine lv_iconst (v := 0) hx hb dX3_copy_82 (by decide) ?_
      refine lv_istore_n (lv' := [(3, .int 0), (0, .ref (bm 0)), (1, .int (nI o)), (2, .int (nI k))]) hx hb dX3_copy_83 rfl hl (by decide) rfl (fun ls hl => ?_)
      have hz2 : ∀ j, j < 257 → ∀ i, i < 32 → r2 (bm 6) (32 * j + i) = b_tm β j i ∧ r2 (bm 7) (32 * j + i) = b_by β j i ∧ r2 (bm 8) (32 * j + i) = bi (b_in β j i) := hM2.2.2.2.2.1
      obtain ⟨w, ew⟩ : ∃ z : Nat, z = 0 := ⟨_, rfl⟩
      obtain ⟨r3, er3⟩ : ∃ z : Nat → Nat → Int32, z = r2 := ⟨_, rfl⟩
      replace hl : lv_has ls 4 [(0, .ref (bm 0)), (1, .int (nI o)), (2, .int (nI k)), (3, .int (nI w))] := by subst ew er3; exact (lv_sub hl [1, 2, 3, 0] rfl)
      replace hG : gw G base s.heap (L, K, n, r3, r1, rQ, fI, fR) H locs := by subst ew er3; exact hG
      have inv : w ≤ 32 ∧ upR (r2 (bm 6)) (r3 (bm 6)) (32 * k) w (fun v => r2 (bm 6) (32 * o + v)) ∧ upR (r2 (bm 7)) (r3 (bm 7)) (32 * k) w (fun v => r2 (bm 7) (32 * o + v)) ∧ upR (r2 (bm 8)) (r3 (bm 8)) (32 * k) w (fun v => r2 (bm 8) (32 * o + v)) ∧ (∀ b, b ≠ bm 6 → b ≠ bm 7 → b ≠ bm 8 → r3 b = r2 b) := by
        subst ew er3
        exact ⟨by omega, upR_0, upR_0, upR_0, fun _ _ _ _ => rfl⟩
      have hf : 32 < w + 33 := by omega
      clear ew er3
      generalize 33 = d at hf
      induction d generalizing w r3 H locs ls with
      | zero => exact absurd hf (by have := inv.1; omega)
      | succ d ih =>
        refine lv_iload_n hx hb dX3_copy_84 rfl (lv_at hl 3 rfl) ?_
        refine lv_bipush (v := 32) hx hb dX3_copy_85 (by decide) ?_
        refine lv_icmp_ge (tgt := 112) hx hb dX3_copy_87 (by decide) (fun c9 => ?_) (fun c9 => ?_)
        · have hw : w = 32 := by
            rcases Nat.lt_or_ge w 32 with q | q
            · exact absurd c9 (nI_ge q (by decide))
            · omega
          subst hw
          refine W.widen (k := 0) (n := 0) (by omega) (by omega) ?_
          exact W.vret hx hb hr (fun t9 h9 hW9 => ⟨⟨(r3, r1), rfl, hP1.tr (repM_T (t := b_tm β o) (b := b_by β o) (z := b_in β o) hM2 hk (upR_F inv.2.1 (fun v hv => (hz2 o ho v hv).1)) (upR_F inv.2.2.1 (fun v hv => (hz2 o ho v hv).2.1)) (upR_F inv.2.2.2.1 (fun v hv => (hz2 o ho v hv).2.2)) inv.2.2.2.2), hG.at h9⟩, hG.2.2.1.F h9⟩) hG.2.2.1.2.2 dX3_copy_112
        · have hw : w < 32 := by
            rcases Nat.lt_or_ge w 32 with q | q
            · exact q
            · exact absurd (nI_le (a := 32) q (by omega)) c9
          refine lv_aload_n hx hb dX3_copy_90 rfl (lv_at hl 0 rfl) ?_
          refine lv_bipush (v := 32) hx hb dX3_copy_91 (by decide) ?_
          refine lv_iload_n hx hb dX3_copy_93 rfl (lv_at hl 1 rfl) ?_
          refine lv_imul hx hb dX3_copy_94 ?_
          refine lv_iload_n hx hb dX3_copy_95 rfl (lv_at hl 3 rfl) ?_
          refine lv_iadd hx hb dX3_copy_96 ?_
          refine lv_topi (fun z3 ez3 => ?_)
          obtain rfl : z3 = nI (32 * o + w) := ez3.trans (m32 o w)
          refine lv_bipush (v := 32) hx hb dX3_copy_97 (by decide) ?_
          refine lv_iload_n hx hb dX3_copy_99 rfl (lv_at hl 2 rfl) ?_
          refine lv_imul hx hb dX3_copy_100 ?_
          refine lv_iload_n hx hb dX3_copy_101 rfl (lv_at hl 3 rfl) ?_
          refine lv_iadd hx hb dX3_copy_102 ?_
          refine lv_topi (fun z4 ez4 => ?_)
          obtain rfl : z4 = nI (32 * k + w) := ez4.trans (m32 k w)
          refine g_callv (va_runV (As := [.int (nI (32 * o + w)), .int (nI (32 * k + w))]) (rest := []) ⟨hx, hb, hml, hown, hts⟩ (k_copyTimed l G base hMd (i := 32 * o + w) (j := 32 * k + w) (by omega) (by omega) (zz := b_in β o w) ((inv.2.2.2.1.2 _ (by omega)).trans (hz2 o ho w (by omega)).2.2)) (cwV 2 hts gX3_copy_X3_copyTimed rfl rfl rfl (by decide +kernel) ⟨(Nat.le_of_ble_eq_true rfl), (Nat.le_of_ble_eq_true rfl)⟩) (g_pv3 hK hG mL0 mK0) rfl rfl hl.1 rfl (lv_room (Nat.le_of_ble_eq_true rfl)) dX3_copy_103 ⟨(Nat.le_of_ble_eq_true rfl), (Nat.le_of_ble_eq_true rfl)⟩) hG (fun _ H locs hp hG => ?_)
          refine lv_iinc (v := (nI (w + 1))) (lv' := [(3, .int (nI (w + 1))), (0, .ref (bm 0)), (1, .int (nI o)), (2, .int (nI k))]) hx hb dX3_copy_106 hl (k := 3) rfl (nI_1 w) (by decide) rfl (fun ls hl => ?_)
          refine lv_goto (tgt := 84) hx hb dX3_copy_109 (by decide) ?_
          exact ih (w := w + 1) (hl := (lv_sub hl [1, 2, 3, 0] rfl)) (hG := hG) (inv := ⟨by omega, (upR_3 (isMd_ne hMd (show okM 6 by decide) (show okM 7 by decide) (by decide)) (isMd_ne hMd (show okM 6 by decide) (show okM 8 by decide) (by decide)) (isMd_ne hMd (show okM 7 by decide) (show okM 8 by decide) (by decide)) inv.2.1 inv.2.2.1 inv.2.2.2.1 (inv.2.1.2 _ (by omega)) (inv.2.2.1.2 _ (by omega)) (hz2 o ho w (by omega)).2.2.symm).1, (upR_3 (isMd_ne hMd (show okM 6 by decide) (show okM 7 by decide) (by decide)) (isMd_ne hMd (show okM 6 by decide) (show okM 8 by decide) (by decide)) (isMd_ne hMd (show okM 7 by decide) (show okM 8 by decide) (by decide)) inv.2.1 inv.2.2.1 inv.2.2.2.1 (inv.2.1.2 _ (by omega)) (inv.2.2.1.2 _ (by omega)) (hz2 o ho w (by omega)).2.2.symm).2.1, (upR_3 (isMd_ne hMd (show okM 6 by decide) (show okM 7 by decide) (by decide)) (isMd_ne hMd (show okM 6 by decide) (show okM 8 by decide) (by decide)) (isMd_ne hMd (show okM 7 by decide) (show okM 8 by decide) (by decide)) inv.2.1 inv.2.2.1 inv.2.2.2.1 (inv.2.1.2 _ (by omega)) (inv.2.2.1.2 _ (by omega)) (hz2 o ho w (by omega)).2.2.symm).2.2, fun b h1 h2 h3 => by rw [g3o h1 h2 h3]; exact inv.2.2.2.2 b h1 h2 h3⟩) (hf := by omega)
    · have hw : w < 12 := by
        rcases Nat.lt_or_ge w 12 with q | q
        · exact q
        · exact absurd (nI_le (a := 12) q (by omega)) c0
      refine lv_aload_n hx hb dX3_copy_8 rfl (lv_at hl 0 rfl) ?_
      refine r_Model_seen hx hb hts (by decide +kernel) hown hK hG mL0 mK0 mf2 (hts (.fieldLink RX3 7 "DotStoresModel" "seen" "[J") (by decide +kernel)) dX3_copy_9 ?_
      refine lv_bipush (v := 12) hx hb dX3_copy_12 (by decide) ?_
      refine lv_iload_n hx hb dX3_copy_14 rfl (lv_at hl 2 rfl) ?_
      refine lv_imul hx hb dX3_copy_15 ?_
      refine lv_iload_n hx hb dX3_copy_16 rfl (lv_at hl 3 rfl) ?_
      refine lv_iadd hx hb dX3_copy_17 ?_
      refine lv_topi (fun z5 ez5 => ?_)
      obtain rfl : z5 = nI (12 * k + w) := ez5.trans (m12 k w)
      refine lv_aload_n hx hb dX3_copy_18 rfl (lv_at hl 0 rfl) ?_
      refine r_Model_seen hx hb hts (by decide +kernel) hown hK hG mL0 mK0 mf2 (hts (.fieldLink RX3 7 "DotStoresModel" "seen" "[J") (by decide +kernel)) dX3_copy_19 ?_
      refine lv_bipush (v := 12) hx hb dX3_copy_22 (by decide) ?_
      refine lv_iload_n hx hb dX3_copy_24 rfl (lv_at hl 1 rfl) ?_
      refine lv_imul hx hb dX3_copy_25 ?_
      refine lv_iload_n hx hb dX3_copy_26 rfl (lv_at hl 3 rfl) ?_
      refine lv_iadd hx hb dX3_copy_27 ?_
      refine lv_topi (fun z6 ez6 => ?_)
      obtain rfl : z6 = nI (12 * o + w) := ez6.trans (m12 o w)
      refine g_lald hx hb hK hG mL2 mK2 (12 * o + w) rfl (by rw [mn2]; omega) (by rw [mn2]; decide) dX3_copy_28 ?_
      refine lv_topl (fun z7 ez7 => ?_)
      obtain rfl : z7 = rJ (bm 2) (12 * o + w) := ez7.trans (inv.2.1.2 _ (by omega))
      refine g_last hx hb hK hG mL2 mK2 (12 * k + w) rfl (by rw [mn2]; omega) (by rw [mn2]; decide) dX3_copy_29 (fun H locs hG => ?_)
      refine lv_aload_n hx hb dX3_copy_30 rfl (lv_at hl 0 rfl) ?_
      refine r_Model_live hx hb hts (by decide +kernel) hown hK hG mL0 mK0 mf3 (hts (.fieldLink RX3 13 "DotStoresModel" "live" "[J") (by decide +kernel)) dX3_copy_31 ?_
      refine lv_bipush (v := 12) hx hb dX3_copy_34 (by decide) ?_
      refine lv_iload_n hx hb dX3_copy_36 rfl (lv_at hl 2 rfl) ?_
      refine lv_imul hx hb dX3_copy_37 ?_
      refine lv_iload_n hx hb dX3_copy_38 rfl (lv_at hl 3 rfl) ?_
      refine lv_iadd hx hb dX3_copy_39 ?_
      refine lv_topi (fun z8 ez8 => ?_)
      obtain rfl : z8 = nI (12 * k + w) := ez8.trans (m12 k w)
      refine lv_aload_n hx hb dX3_copy_40 rfl (lv_at hl 0 rfl) ?_
      refine r_Model_live hx hb hts (by decide +kernel) hown hK hG mL0 mK0 mf3 (hts (.fieldLink RX3 13 "DotStoresModel" "live" "[J") (by decide +kernel)) dX3_copy_41 ?_
      refine lv_bipush (v := 12) hx hb dX3_copy_44 (by decide) ?_
      refine lv_iload_n hx hb dX3_copy_46 rfl (lv_at hl 1 rfl) ?_
      refine lv_imul hx hb dX3_copy_47 ?_
      refine lv_iload_n hx hb dX3_copy_48 rfl (lv_at hl 3 rfl) ?_
      refine lv_iadd hx hb dX3_copy_49 ?_
      refine lv_topi (fun z9 ez9 => ?_)
      obtain rfl : z9 = nI (12 * o + w) := ez9.trans (m12 o w)
      refine g_lald hx hb hK hG mL3 mK3 (12 * o + w) rfl (by rw [mn3]; omega) (by rw [mn3]; decide) dX3_copy_50 ?_
      refine lv_topl (fun z10 ez10 => ?_)
      obtain rfl : z10 = rJ (bm 3) (12 * o + w) := ez10.trans ((by rw [g_up_b _ _ _ _ (isMd_ne hMd (show okM 3 by decide) (show okM 2 by decide) (by decide))]; exact inv.2.2.1.2 _ (by omega)))
      refine g_last hx hb hK hG mL3 mK3 (12 * k + w) rfl (by rw [mn3]; omega) (by rw [mn3]; decide) dX3_copy_51 (fun H locs hG => ?_)
      refine lv_iinc (v := (nI (w + 1))) (lv' := [(3, .int (nI (w + 1))), (0, .ref (bm 0)), (1, .int (nI o)), (2, .int (nI k))]) hx hb dX3_copy_52 hl (k := 3) rfl (nI_1 w) (by decide) rfl (fun ls hl => ?_)
      refine lv_goto (tgt := 2) hx hb dX3_copy_55 (by decide) ?_
      exact ih (w := w + 1) (hl := (lv_sub hl [1, 2, 3, 0] rfl)) (hG := hG) (inv := ⟨by omega, (upR_2 (isMd_ne hMd (show okM 2 by decide) (show okM 3 by decide) (by decide)) inv.2.1 inv.2.2.1 rfl rfl).1, (upR_2 (isMd_ne hMd (show okM 2 by decide) (show okM 3 by decide) (by decide)) inv.2.1 inv.2.2.1 rfl rfl).2, fun b h1 h2 => by rw [g_up_other _ _ _ h2, g_up_other _ _ _ h1]; exact inv.2.2.2 b h1 h2⟩) (hf := by omega)
theorem jbS {rJ : Nat → Nat → Int64} {bm : Nat → Nat} {β : bT} {o k i : Nat} (h1 : ∀ i, i < 768 → rb (mr (rJ (bm 2)) o) i = b_S β o i ∧ rb (mr (rJ (bm 3)) o) i = b_L β o i) (h2 : ∀ i, i < 768 → rb (mr (rJ (bm 2)) k) i = b_S β k i ∧ rb (mr (rJ (bm 3)) k) i = b_L β k i) (hi : i < 768) :
    rb (fun v => rJ (bm 2) (12 * o + v) ||| rJ (bm 2) (12 * k + v)) i = (b_S β k i || b_S β o i) := by
  rw [← (h1 i hi).1, ← (h2 i hi).1]
  unfold rb mr
  rw [lb_or, Bool.or_comm]
theorem jbL {rJ : Nat → Nat → Int64} {bm : Nat → Nat} {β : bT} {o k i : Nat} (h1 : ∀ i, i < 768 → rb (mr (rJ (bm 2)) o) i = b_S β o i ∧ rb (mr (rJ (bm 3)) o) i = b_L β o i) (h2 : ∀ i, i < 768 → rb (mr (rJ (bm 2)) k) i = b_S β k i ∧ rb (mr (rJ (bm 3)) k) i = b_L β k i) (hi : i < 768) :
    rb (fun v => ((rJ (bm 3) (12 * o + v) &&& rJ (bm 3) (12 * k + v)) ||| (rJ (bm 3) (12 * o + v) &&& (rJ (bm 2) (12 * k + v) ^^^ (-1)))) ||| (rJ (bm 3) (12 * k + v) &&& (rJ (bm 2) (12 * o + v) ^^^ (-1)))) i = jb (b_L β k i) (b_S β k i) (b_L β o i) (b_S β o i) := by
  rw [← (h1 i hi).1, ← (h2 i hi).1, ← (h1 i hi).2, ← (h2 i hi).2]
  unfold rb mr
  exact jw (Nat.mod_lt _ (by decide))
set_option maxHeartbeats 4000000 in
set_option maxRecDepth 100000 in
/-- joinTo -/
theorem k_joinTo (l : Launch) (G : gG) (base : Nat) {L : List Nat} {K n : Nat → Nat} {rI : Nat → Nat → Int32} {rJ : Nat → Nat → Int64} {rQ : Nat → Nat → Option Nat} {fI : Nat → Nat → Int32} {fR : Nat → Nat → Option Nat} {bm : Nat → Nat} {β : bT} (hM : RepM (L, K, n, rI, rJ, rQ, fI, fR) bm β) {o k : Nat} (ho : o < 257) (hk : k < 257) : Met l yX3_joinTo wsX3_joinTo ({ frames := 1, cells := 0, slots := 0, locals := 22 }) (va_Pc [.ref (bm 0), .int (nI o), .int (nI k)] (g_Pr G base (L, K, n, rI, rJ, rQ, fI, fR))) (g_Qv G base (fun u : (Nat → Nat → Int32) × (Nat → Nat → Int64) => (L, K, n, u.1, u.2, rQ, fI, fR)) (fun u => StpM (L, K, n, rI, rJ, rQ, fI, fR) bm (L, K, n, u.1, u.2, rQ, fI, fR) (bJoin β o k))) 0 0 (g_A base) := by
  have hMd : isMd L K n fR bm := hM.1
  have hMd0 := hMd
  obtain ⟨minj, mL0, mK0, ⟨mf2, mf3, mf4, mf5, mf6, mf7, mf8, mf9, mf10, mf11, mf13⟩, ⟨mL2, mK2, mn2⟩, ⟨mL3, mK3, mn3⟩, ⟨mL4, mK4, mn4⟩, ⟨mL5, mK5, mn5⟩, ⟨mL6, mK6, mn6⟩, ⟨mL7, mK7, mn7⟩, ⟨mL8, mK8, mn8⟩, ⟨mL9, mK9, mn9⟩, ⟨mL10, mK10, mn10⟩, ⟨mL11, mK11, mn11⟩, ⟨mL13, mK13, mn13⟩⟩ := hMd0
  have hdl : fI (bm 0) 1 = nI (b_nd β) := hM.2.1.1
  have hnd : b_nd β ≤ 250 := hM.2.1.2
  refine Met.ofW (cc := cX3_joinTo) (maxL := 6) (ret := none) (by decide) rfl ?_
  intro p e s m args below meth c s₁ B hml hv
  obtain ⟨rfl, hPr⟩ := hv
  have hx := B.exec
  have hb := B.bytes
  have hr := B.returns
  have hts := atoms_spec (ws := wsX3_joinTo) B.pre
  have hown : s.vm.findClass RX3 = some m.cls := findClass_of_methodNamed B.named
  have hlocks := B.notSynchronized
  have hin : meth.name = "joinTo" := (name_of_methodNamed B.named B.method).1
  have hK := hPr.2.2
  have hG := hPr.gw
  have hl := lv_entry ([.ref (bm 0), .int (nI o), .int (nI k)]) (n := 6) (Nat.le_of_ble_eq_true rfl)
  rw [lg_entry_eq]
  generalize (lg_sl ([.ref (bm 0), .int (nI o), .int (nI k)]) ++ List.replicate (6 - (lg_sl ([.ref (bm 0), .int (nI o), .int (nI k)])).length) Slot.unset).toArray = ls at hl ⊢
  have hl : lv_has ls 6 [(0, .ref (bm 0)), (1, .int (nI o)), (2, .int (nI k))] := hl
  refine g_start hPr (fun H locs hG => ?_)
  refine lv_iconst (v := 0) hx hb dX3_joinTo_0 (by decide) ?_
  refine lv_istore_n (lv' := [(3, .int 0), (0, .ref (bm 0)), (1, .int (nI o)), (2, .int (nI k))]) hx hb dX3_joinTo_1 rfl hl (by decide) rfl (fun ls hl => ?_)
  obtain ⟨w, ew⟩ : ∃ z : Nat, z = 0 := ⟨_, rfl⟩
  obtain ⟨r1, er1⟩ : ∃ z : Nat → Nat → Int64, z = rJ := ⟨_, rfl⟩
  replace hl : lv_has ls 6 [(0, .ref (bm 0)), (1, .int (nI o)), (2, .int (nI k)), (3, .int (nI w))] := by subst ew er1; exact (lv_sub hl [1, 2, 3, 0] rfl)
  replace hG : gw G base s.heap (L, K, n, rI, r1, rQ, fI, fR) H locs := by subst ew er1; exact hG
  have inv : w ≤ 12 ∧ upR (rJ (bm 2)) (r1 (bm 2)) (12 * k) w (fun v => rJ (bm 2) (12 * o + v) ||| rJ (bm 2) (12 * k + v)) ∧ upR (rJ (bm 3)) (r1 (bm 3)) (12 * k) w (fun v => ((rJ (bm 3) (12 * o + v) &&& rJ (bm 3) (12 * k + v)) ||| (rJ (bm 3) (12 * o + v) &&& (rJ (bm 2) (12 * k + v) ^^^ (-1)))) ||| (rJ (bm 3) (12 * k + v) &&& (rJ (bm 2) (12 * o + v) ^^^ (-1)))) ∧ (∀ b, b ≠ bm 2 → b ≠ bm 3 → r1 b = rJ b) := by
    subst ew er1
    exact ⟨by omega, upR_0, upR_0, fun _ _ _ => rfl⟩
  have hf : 12 < w + 13 := by omega
  clear ew er1
  generalize 13 = d at hf
  induction d generalizing w r1 H locs ls with
  | zero => exact absurd hf (by have := inv.1; omega)
  | succ d ih =>
    refine lv_iload_n hx hb dX3_joinTo_2 rfl (lv_at hl 3 rfl) ?_
    refine lv_bipush (v := 12) hx hb dX3_joinTo_3 (by decide) ?_
    refine lv_icmp_ge (tgt := 114) hx hb dX3_joinTo_5 (by decide) (fun c0 => ?_) (fun c0 => ?_)
    · have hw : w = 12 := by
        rcases Nat.lt_or_ge w 12 with q | q
        · exact absurd c0 (nI_ge q (by decide))
        · omega
      subst hw
      clear ih hf
      have hJ1 : StpM (L, K, n, rI, rJ, rQ, fI, fR) bm (L, K, n, rI, r1, rQ, fI, fR) (bSL β k (fun i => b_S β k i || b_S β o i) (fun i => jb (b_L β k i) (b_S β k i) (b_L β o i) (b_S β o i))) := repM_J hM hk inv.2.1 inv.2.2.1 inv.2.2.2 (fun i hi => jbS (hM.2.2.1 o ho) (hM.2.2.1 k hk) hi) (fun i hi => jbL (hM.2.2.1 o ho) (hM.2.2.1 k hk) hi)
      clear inv
      refine lv_aload_n hx hb dX3_joinTo_114 rfl (lv_at hl 0 rfl) ?_
      refine r_Model_put hx hb hts (by decide +kernel) hown hK hG mL0 mK0 mf4 (hts (.fieldLink RX3 16 "DotStoresModel" "put" "[I") (by decide +kernel)) dX3_joinTo_115 ?_
      refine lv_iload_n hx hb dX3_joinTo_118 rfl (lv_at hl 2 rfl) ?_
      refine lv_aload_n hx hb dX3_joinTo_119 rfl (lv_at hl 0 rfl) ?_
      refine r_Model_put hx hb hts (by decide +kernel) hown hK hG mL0 mK0 mf4 (hts (.fieldLink RX3 16 "DotStoresModel" "put" "[I") (by decide +kernel)) dX3_joinTo_120 ?_
      refine lv_iload_n hx hb dX3_joinTo_123 rfl (lv_at hl 2 rfl) ?_
      refine g_iald hx hb hK hG mL4 mK4 (k) rfl (by rw [mn4]; omega) (by rw [mn4]; decide) dX3_joinTo_124 ?_
      refine lv_topi (fun z1 ez1 => ?_)
      obtain rfl : z1 = b_P β k := ez1.trans ((hM.2.2.2.1 k hk).1)
      refine lv_aload_n hx hb dX3_joinTo_125 rfl (lv_at hl 0 rfl) ?_
      refine r_Model_put hx hb hts (by decide +kernel) hown hK hG mL0 mK0 mf4 (hts (.fieldLink RX3 16 "DotStoresModel" "put" "[I") (by decide +kernel)) dX3_joinTo_126 ?_
      refine lv_iload_n hx hb dX3_joinTo_129 rfl (lv_at hl 1 rfl) ?_
      refine g_iald hx hb hK hG mL4 mK4 (o) rfl (by rw [mn4]; omega) (by rw [mn4]; decide) dX3_joinTo_130 ?_
      refine lv_topi (fun z2 ez2 => ?_)
      obtain rfl : z2 = b_P β o := ez2.trans ((hM.2.2.2.1 o ho).1)
      refine lv_ior hx hb dX3_joinTo_131 ?_
      refine g_iast hx hb hK hG mL4 mK4 (k) rfl (by rw [mn4]; omega) (by rw [mn4]; decide) dX3_joinTo_132 (fun H locs hG => ?_)
      refine lv_aload_n hx hb dX3_joinTo_133 rfl (lv_at hl 0 rfl) ?_
      refine r_Model_taken hx hb hts (by decide +kernel) hown hK hG mL0 mK0 mf5 (hts (.fieldLink RX3 20 "DotStoresModel" "taken" "[I") (by decide +kernel)) dX3_joinTo_134 ?_
      refine lv_iload_n hx hb dX3_joinTo_137 rfl (lv_at hl 2 rfl) ?_
      refine lv_aload_n hx hb dX3_joinTo_138 rfl (lv_at hl 0 rfl) ?_
      refine r_Model_taken hx hb hts (by decide +kernel) hown hK hG mL0 mK0 mf5 (hts (.fieldLink RX3 20 "DotStoresModel" "taken" "[I") (by decide +kernel)) dX3_joinTo_139 ?_
      refine lv_iload_n hx hb dX3_joinTo_142 rfl (lv_at hl 2 rfl) ?_
      refine g_iald hx hb hK hG mL5 mK5 (k) rfl (by rw [mn5]; omega) (by rw [mn5]; decide) dX3_joinTo_143 ?_
      refine lv_topi (fun z3 ez3 => ?_)
      obtain rfl : z3 = b_T β k := ez3.trans ((by rw [g_up_b _ _ _ _ (isMd_ne hMd (show okM 5 by decide) (show okM 4 by decide) (by decide))]; exact (hM.2.2.2.1 k hk).2))
      refine lv_aload_n hx hb dX3_joinTo_144 rfl (lv_at hl 0 rfl) ?_
      refine r_Model_taken hx hb hts (by decide +kernel) hown hK hG mL0 mK0 mf5 (hts (.fieldLink RX3 20 "DotStoresModel" "taken" "[I") (by decide +kernel)) dX3_joinTo_145 ?_
      refine lv_iload_n hx hb dX3_joinTo_148 rfl (lv_at hl 1 rfl) ?_
      refine g_iald hx hb hK hG mL5 mK5 (o) rfl (by rw [mn5]; omega) (by rw [mn5]; decide) dX3_joinTo_149 ?_
      refine lv_topi (fun z4 ez4 => ?_)
      obtain rfl : z4 = b_T β o := ez4.trans ((by rw [g_up_b _ _ _ _ (isMd_ne hMd (show okM 5 by decide) (show okM 4 by decide) (by decide))]; exact (hM.2.2.2.1 o ho).2))
      refine lv_ior hx hb dX3_joinTo_150 ?_
      refine g_iast hx hb hK hG mL5 mK5 (k) rfl (by rw [mn5]; omega) (by rw [mn5]; decide) dX3_joinTo_151 (fun H locs hG => ?_)
      obtain ⟨r2, er2⟩ : ∃ z, z = g_up (g_up rI (bm 4) k (b_P β k ||| b_P β o)) (bm 5) k (b_T β k ||| b_T β o) := ⟨_, rfl⟩
      replace hG : gw G base s.heap (L, K, n, r2, r1, rQ, fI, fR) H locs := by rw [er2]; exact hG
      have hP1 : StpM (L, K, n, rI, rJ, rQ, fI, fR) bm (L, K, n, r2, r1, rQ, fI, fR) (bPT (bSL β k (fun i => b_S β k i || b_S β o i) (fun i => jb (b_L β k i) (b_S β k i) (b_L β o i) (b_S β o i))) k (b_P β k ||| b_P β o) (b_T β k ||| b_T β o)) := hJ1.tr (repM_P hJ1.1 (k := k) (P := b_P β k ||| b_P β o) (T := b_T β k ||| b_T β o) (fun j => by rw [er2]; exact gP4 (isMd_ne hMd (show okM 4 by decide) (show okM 5 by decide) (by decide)) j) (fun j => by rw [er2]; exact gP5 (isMd_ne hMd (show okM 4 by decide) (show okM 5 by decide) (by decide)) j) (fun b h1 h2 => by rw [er2]; exact gPo h1 h2))
      have hM2 := hP1.1
      refine lv_iconst (v := 0) hx hb dX3_joinTo_152 (by decide) ?_
      refine lv_istore_n (lv' := [(3, .int 0), (0, .ref (bm 0)), (1, .int (nI o)), (2, .int (nI k))]) hx hb dX3_joinTo_153 rfl hl (by decide) rfl (fun ls hl => ?_)
      have hz2 : ∀ j, j < 257 → ∀ i, i < 32 → r2 (bm 6) (32 * j + i) = b_tm β j i ∧ r2 (bm 7) (32 * j + i) = b_by β j i ∧ r2 (bm 8) (32 * j + i) = bi (b_in β j i) := hM2.2.2.2.2.1
      obtain ⟨w, ew⟩ : ∃ z : Nat, z = 0 := ⟨_, rfl⟩
      obtain ⟨r3, er3⟩ : ∃ z : Nat → Nat → Int32, z = r2 := ⟨_, rfl⟩
      replace hl : lv_has ls 6 [(0, .ref (bm 0)), (1, .int (nI o)), (2, .int (nI k)), (3, .int (nI w))] := by subst ew er3; exact (lv_sub hl [1, 2, 3, 0] rfl)
      replace hG : gw G base s.heap (L, K, n, r3, r1, rQ, fI, fR) H locs := by subst ew er3; exact hG
      have inv : w ≤ 32 ∧ upR (r2 (bm 6)) (r3 (bm 6)) (32 * k) w (fun v => if bAft β o k v then r2 (bm 6) (32 * o + v) else r2 (bm 6) (32 * k + v)) ∧ upR (r2 (bm 7)) (r3 (bm 7)) (32 * k) w (fun v => if bAft β o k v then r2 (bm 7) (32 * o + v) else r2 (bm 7) (32 * k + v)) ∧ upR (r2 (bm 8)) (r3 (bm 8)) (32 * k) w (fun v => if bAft β o k v then r2 (bm 8) (32 * o + v) else r2 (bm 8) (32 * k + v)) ∧ (∀ b, b ≠ bm 6 → b ≠ bm 7 → b ≠ bm 8 → r3 b = r2 b) := by
        subst ew er3
        exact ⟨by omega, upR_0, upR_0, upR_0, fun _ _ _ _ => rfl⟩
      have hf : 32 < w + 33 := by omega
      clear ew er3
      generalize 33 = d at hf
      induction d generalizing w r3 H locs ls with
      | zero => exact absurd hf (by have := inv.1; omega)
      | succ d ih =>
        refine lv_iload_n hx hb dX3_joinTo_154 rfl (lv_at hl 3 rfl) ?_
        refine lv_bipush (v := 32) hx hb dX3_joinTo_155 (by decide) ?_
        refine lv_icmp_ge (tgt := 201) hx hb dX3_joinTo_157 (by decide) (fun c9 => ?_) (fun c9 => ?_)
        · have hw : w = 32 := by
            rcases Nat.lt_or_ge w 32 with q | q
            · exact absurd c9 (nI_ge q (by decide))
            · omega
          subst hw
          refine W.widen (k := 0) (n := 0) (by omega) (by omega) ?_
          exact W.vret hx hb hr (fun t9 h9 hW9 => ⟨⟨(r3, r1), rfl, hP1.tr (repM_T (t := fun i => if bAft β o k i then b_tm β o i else b_tm β k i) (b := fun i => if bAft β o k i then b_by β o i else b_by β k i) (z := fun i => if bAft β o k i then b_in β o i else b_in β k i) hM2 hk (upR_F inv.2.1 (fun v hv => by show (if bAft β o k v then r2 (bm 6) _ else r2 (bm 6) _) = _; rw [(hz2 o ho v hv).1, (hz2 k hk v hv).1])) (upR_F inv.2.2.1 (fun v hv => by show (if bAft β o k v then r2 (bm 7) _ else r2 (bm 7) _) = _; rw [(hz2 o ho v hv).2.1, (hz2 k hk v hv).2.1])) (upR_F inv.2.2.2.1 (fun v hv => by show (if bAft β o k v then r2 (bm 8) _ else r2 (bm 8) _) = bi (if bAft β o k v then _ else _); rw [(hz2 o ho v hv).2.2, (hz2 k hk v hv).2.2]; split <;> rfl)) inv.2.2.2.2), hG.at h9⟩, hG.2.2.1.F h9⟩) hG.2.2.1.2.2 dX3_joinTo_201
        · have hw : w < 32 := by
            rcases Nat.lt_or_ge w 32 with q | q
            · exact q
            · exact absurd (nI_le (a := 32) q (by omega)) c9
          refine lv_bipush (v := 32) hx hb dX3_joinTo_160 (by decide) ?_
          refine lv_iload_n hx hb dX3_joinTo_162 rfl (lv_at hl 1 rfl) ?_
          refine lv_imul hx hb dX3_joinTo_163 ?_
          refine lv_iload_n hx hb dX3_joinTo_164 rfl (lv_at hl 3 rfl) ?_
          refine lv_iadd hx hb dX3_joinTo_165 ?_
          refine lv_topi (fun z5 ez5 => ?_)
          obtain rfl : z5 = nI (32 * o + w) := ez5.trans (m32 o w)
          refine lv_istore (lv' := [(4, .int (nI (32 * o + w))), (0, .ref (bm 0)), (1, .int (nI o)), (2, .int (nI k)), (3, .int (nI w))]) hx hb dX3_joinTo_166 hl (by decide) rfl (fun ls hl => ?_)
          refine lv_bipush (v := 32) hx hb dX3_joinTo_168 (by decide) ?_
          refine lv_iload_n hx hb dX3_joinTo_170 rfl (lv_at hl 3 rfl) ?_
          refine lv_imul hx hb dX3_joinTo_171 ?_
          refine lv_iload_n hx hb dX3_joinTo_172 rfl (lv_at hl 4 rfl) ?_
          refine lv_iadd hx hb dX3_joinTo_173 ?_
          refine lv_topi (fun z6 ez6 => ?_)
          obtain rfl : z6 = nI (32 * k + w) := ez6.trans (m32 k w)
          refine lv_istore (lv' := [(5, .int (nI (32 * k + w))), (4, .int (nI (32 * o + w))), (0, .ref (bm 0)), (1, .int (nI o)), (2, .int (nI k)), (3, .int (nI w))]) hx hb dX3_joinTo_174 hl (by decide) rfl (fun ls hl => ?_)
          refine lv_aload_n hx hb dX3_joinTo_176 rfl (lv_at hl 2 rfl) ?_
          refine lv_iload hx hb dX3_joinTo_177 (lv_at hl 1 rfl) ?_
          refine lv_iload hx hb dX3_joinTo_179 (lv_at hl 0 rfl) ?_
          refine g_calli (va_runV (As := [.int (nI (32 * o + w)), .int (nI (32 * k + w))]) (rest := []) ⟨hx, hb, hml, hown, hts⟩ (k_isAfter l G base hMd (i := 32 * o + w) (j := 32 * k + w) (by omega) (by omega) (zi := b_in β o w) (zj := b_in β k w) ((inv.2.2.2.1.2 _ (by omega)).trans (hz2 o ho w (by omega)).2.2) ((inv.2.2.2.1.2 _ (by omega)).trans (hz2 k hk w (by omega)).2.2)) (cwV 2 hts gX3_joinTo_X3_isAfter rfl rfl rfl (by decide +kernel) ⟨(Nat.le_of_ble_eq_true rfl), (Nat.le_of_ble_eq_true rfl)⟩) (g_pv3 hK hG mL0 mK0) rfl rfl hl.1 rfl (lv_room (Nat.le_of_ble_eq_true rfl)) dX3_joinTo_181 ⟨(Nat.le_of_ble_eq_true rfl), (Nat.le_of_ble_eq_true rfl)⟩) hG (fun y1 _ H locs hp hG => ?_)
          have hp : y1 = bi (bAft β o k w) := by
            rw [hp, inv.2.1.2 _ (by omega), inv.2.1.2 _ (by omega), inv.2.2.1.2 _ (by omega), inv.2.2.1.2 _ (by omega), (hz2 o ho w (by omega)).1, (hz2 o ho w (by omega)).2.1, (hz2 k hk w (by omega)).1, (hz2 k hk w (by omega)).2.1]
            rfl
          subst hp
          refine lv_if_eq (tgt := 195) hx hb dX3_joinTo_184 (by decide) (fun c2 => ?_) (fun c2 => ?_)
          · have c2 := bi_0.mp c2
            refine lv_iinc (v := (nI (w + 1))) (lv' := [(3, .int (nI (w + 1))), (5, .int (nI (32 * k + w))), (4, .int (nI (32 * o + w))), (0, .ref (bm 0)), (1, .int (nI o)), (2, .int (nI k))]) hx hb dX3_joinTo_195 hl (k := 5) rfl (nI_1 w) (by decide) rfl (fun ls hl => ?_)
            refine lv_goto (tgt := 154) hx hb dX3_joinTo_198 (by decide) ?_
            exact ih (w := w + 1) (r3 := r3) (hl := (lv_sub hl [3, 4, 5, 0] rfl)) (hG := hG) (inv := ⟨by omega, upR_n inv.2.1 (by show _ = if bAft β o k w then _ else _; rw [c2]; rfl), upR_n inv.2.2.1 (by show _ = if bAft β o k w then _ else _; rw [c2]; rfl), upR_n inv.2.2.2.1 (by show _ = if bAft β o k w then _ else _; rw [c2]; rfl), inv.2.2.2.2⟩) (hf := by omega)
          · have c2 := ts_nf (fun z => c2 (bi_0.mpr z))
            refine lv_aload_n hx hb dX3_joinTo_187 rfl (lv_at hl 2 rfl) ?_
            refine lv_iload hx hb dX3_joinTo_188 (lv_at hl 1 rfl) ?_
            refine lv_iload hx hb dX3_joinTo_190 (lv_at hl 0 rfl) ?_
            refine g_callv (va_runV (As := [.int (nI (32 * o + w)), .int (nI (32 * k + w))]) (rest := []) ⟨hx, hb, hml, hown, hts⟩ (k_copyTimed l G base hMd (i := 32 * o + w) (j := 32 * k + w) (by omega) (by omega) (zz := b_in β o w) ((inv.2.2.2.1.2 _ (by omega)).trans (hz2 o ho w (by omega)).2.2)) (cwV 2 hts gX3_joinTo_X3_copyTimed rfl rfl rfl (by decide +kernel) ⟨(Nat.le_of_ble_eq_true rfl), (Nat.le_of_ble_eq_true rfl)⟩) (g_pv3 hK hG mL0 mK0) rfl rfl hl.1 rfl (lv_room (Nat.le_of_ble_eq_true rfl)) dX3_joinTo_192 ⟨(Nat.le_of_ble_eq_true rfl), (Nat.le_of_ble_eq_true rfl)⟩) hG (fun _ H locs hp hG => ?_)
            refine lv_iinc (v := (nI (w + 1))) (lv' := [(3, .int (nI (w + 1))), (5, .int (nI (32 * k + w))), (4, .int (nI (32 * o + w))), (0, .ref (bm 0)), (1, .int (nI o)), (2, .int (nI k))]) hx hb dX3_joinTo_195 hl (k := 5) rfl (nI_1 w) (by decide) rfl (fun ls hl => ?_)
            refine lv_goto (tgt := 154) hx hb dX3_joinTo_198 (by decide) ?_
            exact ih (w := w + 1) (hl := (lv_sub hl [3, 4, 5, 0] rfl)) (hG := hG) (inv := ⟨by omega, (upR_3 (isMd_ne hMd (show okM 6 by decide) (show okM 7 by decide) (by decide)) (isMd_ne hMd (show okM 6 by decide) (show okM 8 by decide) (by decide)) (isMd_ne hMd (show okM 7 by decide) (show okM 8 by decide) (by decide)) inv.2.1 inv.2.2.1 inv.2.2.2.1 (by show _ = if bAft β o k w then _ else _; rw [c2]; exact inv.2.1.2 _ (by omega)) (by show _ = if bAft β o k w then _ else _; rw [c2]; exact inv.2.2.1.2 _ (by omega)) (by show _ = if bAft β o k w then _ else _; rw [c2]; exact (hz2 o ho w (by omega)).2.2.symm)).1, (upR_3 (isMd_ne hMd (show okM 6 by decide) (show okM 7 by decide) (by decide)) (isMd_ne hMd (show okM 6 by decide) (show okM 8 by decide) (by decide)) (isMd_ne hMd (show okM 7 by decide) (show okM 8 by decide) (by decide)) inv.2.1 inv.2.2.1 inv.2.2.2.1 (by show _ = if bAft β o k w then _ else _; rw [c2]; exact inv.2.1.2 _ (by omega)) (by show _ = if bAft β o k w then _ else _; rw [c2]; exact inv.2.2.1.2 _ (by omega)) (by show _ = if bAft β o k w then _ else _; rw [c2]; exact (hz2 o ho w (by omega)).2.2.symm)).2.1, (upR_3 (isMd_ne hMd (show okM 6 by decide) (show okM 7 by decide) (by decide)) (isMd_ne hMd (show okM 6 by decide) (show okM 8 by decide) (by decide)) (isMd_ne hMd (show okM 7 by decide) (show okM 8 by decide) (by decide)) inv.2.1 inv.2.2.1 inv.2.2.2.1 (by show _ = if bAft β o k w then _ else _; rw [c2]; exact inv.2.1.2 _ (by omega)) (by show _ = if bAft β o k w then _ else _; rw [c2]; exact inv.2.2.1.2 _ (by omega)) (by show _ = if bAft β o k w then _ else _; rw [c2]; exact (hz2 o ho w (by omega)).2.2.symm)).2.2, fun b h1 h2 h3 => by rw [g3o h1 h2 h3]; exact inv.2.2.2.2 b h1 h2 h3⟩) (hf := by omega)
    · have hw : w < 12 := by
        rcases Nat.lt_or_ge w 12 with q | q
        · exact q
        · exact absurd (nI_le (a := 12) q (by omega)) c0
      refine lv_bipush (v := 12) hx hb dX3_joinTo_8 (by decide) ?_
      refine lv_iload_n hx hb dX3_joinTo_10 rfl (lv_at hl 1 rfl) ?_
      refine lv_imul hx hb dX3_joinTo_11 ?_
      refine lv_iload_n hx hb dX3_joinTo_12 rfl (lv_at hl 3 rfl) ?_
      refine lv_iadd hx hb dX3_joinTo_13 ?_
      refine lv_topi (fun z7 ez7 => ?_)
      obtain rfl : z7 = nI (12 * o + w) := ez7.trans (m12 o w)
      refine lv_istore (lv' := [(4, .int (nI (12 * o + w))), (0, .ref (bm 0)), (1, .int (nI o)), (2, .int (nI k)), (3, .int (nI w))]) hx hb dX3_joinTo_14 hl (by decide) rfl (fun ls hl => ?_)
      refine lv_bipush (v := 12) hx hb dX3_joinTo_16 (by decide) ?_
      refine lv_iload_n hx hb dX3_joinTo_18 rfl (lv_at hl 3 rfl) ?_
      refine lv_imul hx hb dX3_joinTo_19 ?_
      refine lv_iload_n hx hb dX3_joinTo_20 rfl (lv_at hl 4 rfl) ?_
      refine lv_iadd hx hb dX3_joinTo_21 ?_
      refine lv_topi (fun z8 ez8 => ?_)
      obtain rfl : z8 = nI (12 * k + w) := ez8.trans (m12 k w)
      refine lv_istore (lv' := [(5, .int (nI (12 * k + w))), (4, .int (nI (12 * o + w))), (0, .ref (bm 0)), (1, .int (nI o)), (2, .int (nI k)), (3, .int (nI w))]) hx hb dX3_joinTo_22 hl (by decide) rfl (fun ls hl => ?_)
      refine lv_aload_n hx hb dX3_joinTo_24 rfl (lv_at hl 2 rfl) ?_
      refine r_Model_live hx hb hts (by decide +kernel) hown hK hG mL0 mK0 mf3 (hts (.fieldLink RX3 13 "DotStoresModel" "live" "[J") (by decide +kernel)) dX3_joinTo_25 ?_
      refine lv_iload hx hb dX3_joinTo_28 (lv_at hl 0 rfl) ?_
      refine lv_aload_n hx hb dX3_joinTo_30 rfl (lv_at hl 2 rfl) ?_
      refine r_Model_live hx hb hts (by decide +kernel) hown hK hG mL0 mK0 mf3 (hts (.fieldLink RX3 13 "DotStoresModel" "live" "[J") (by decide +kernel)) dX3_joinTo_31 ?_
      refine lv_iload hx hb dX3_joinTo_34 (lv_at hl 1 rfl) ?_
      refine g_lald hx hb hK hG mL3 mK3 (12 * o + w) rfl (by rw [mn3]; omega) (by rw [mn3]; decide) dX3_joinTo_36 ?_
      refine lv_topl (fun z9 ez9 => ?_)
      obtain rfl : z9 = rJ (bm 3) (12 * o + w) := ez9.trans (inv.2.2.1.2 _ (by omega))
      refine lv_aload_n hx hb dX3_joinTo_37 rfl (lv_at hl 2 rfl) ?_
      refine r_Model_live hx hb hts (by decide +kernel) hown hK hG mL0 mK0 mf3 (hts (.fieldLink RX3 13 "DotStoresModel" "live" "[J") (by decide +kernel)) dX3_joinTo_38 ?_
      refine lv_iload hx hb dX3_joinTo_41 (lv_at hl 0 rfl) ?_
      refine g_lald hx hb hK hG mL3 mK3 (12 * k + w) rfl (by rw [mn3]; omega) (by rw [mn3]; decide) dX3_joinTo_43 ?_
      refine lv_topl (fun z10 ez10 => ?_)
      obtain rfl : z10 = rJ (bm 3) (12 * k + w) := ez10.trans (inv.2.2.1.2 _ (by omega))
      refine lv_land hx hb dX3_joinTo_44 ?_
      refine lv_aload_n hx hb dX3_joinTo_45 rfl (lv_at hl 2 rfl) ?_
      refine r_Model_live hx hb hts (by decide +kernel) hown hK hG mL0 mK0 mf3 (hts (.fieldLink RX3 13 "DotStoresModel" "live" "[J") (by decide +kernel)) dX3_joinTo_46 ?_
      refine lv_iload hx hb dX3_joinTo_49 (lv_at hl 1 rfl) ?_
      refine g_lald hx hb hK hG mL3 mK3 (12 * o + w) rfl (by rw [mn3]; omega) (by rw [mn3]; decide) dX3_joinTo_51 ?_
      refine lv_topl (fun z11 ez11 => ?_)
      obtain rfl : z11 = rJ (bm 3) (12 * o + w) := ez11.trans (inv.2.2.1.2 _ (by omega))
      refine lv_aload_n hx hb dX3_joinTo_52 rfl (lv_at hl 2 rfl) ?_
      refine r_Model_seen hx hb hts (by decide +kernel) hown hK hG mL0 mK0 mf2 (hts (.fieldLink RX3 7 "DotStoresModel" "seen" "[J") (by decide +kernel)) dX3_joinTo_53 ?_
      refine lv_iload hx hb dX3_joinTo_56 (lv_at hl 0 rfl) ?_
      refine g_lald hx hb hK hG mL2 mK2 (12 * k + w) rfl (by rw [mn2]; omega) (by rw [mn2]; decide) dX3_joinTo_58 ?_
      refine lv_topl (fun z12 ez12 => ?_)
      obtain rfl : z12 = rJ (bm 2) (12 * k + w) := ez12.trans (inv.2.1.2 _ (by omega))
      refine lv_ldc2 (v := (-1)) hx hb hown (hts (.constantLong RX3 57 (-1)) (by decide +kernel)) dX3_joinTo_59 ?_
      refine lv_lxor hx hb dX3_joinTo_62 ?_
      refine lv_land hx hb dX3_joinTo_63 ?_
      refine lv_lor hx hb dX3_joinTo_64 ?_
      refine lv_aload_n hx hb dX3_joinTo_65 rfl (lv_at hl 2 rfl) ?_
      refine r_Model_live hx hb hts (by decide +kernel) hown hK hG mL0 mK0 mf3 (hts (.fieldLink RX3 13 "DotStoresModel" "live" "[J") (by decide +kernel)) dX3_joinTo_66 ?_
      refine lv_iload hx hb dX3_joinTo_69 (lv_at hl 0 rfl) ?_
      refine g_lald hx hb hK hG mL3 mK3 (12 * k + w) rfl (by rw [mn3]; omega) (by rw [mn3]; decide) dX3_joinTo_71 ?_
      refine lv_topl (fun z13 ez13 => ?_)
      obtain rfl : z13 = rJ (bm 3) (12 * k + w) := ez13.trans (inv.2.2.1.2 _ (by omega))
      refine lv_aload_n hx hb dX3_joinTo_72 rfl (lv_at hl 2 rfl) ?_
      refine r_Model_seen hx hb hts (by decide +kernel) hown hK hG mL0 mK0 mf2 (hts (.fieldLink RX3 7 "DotStoresModel" "seen" "[J") (by decide +kernel)) dX3_joinTo_73 ?_
      refine lv_iload hx hb dX3_joinTo_76 (lv_at hl 1 rfl) ?_
      refine g_lald hx hb hK hG mL2 mK2 (12 * o + w) rfl (by rw [mn2]; omega) (by rw [mn2]; decide) dX3_joinTo_78 ?_
      refine lv_topl (fun z14 ez14 => ?_)
      obtain rfl : z14 = rJ (bm 2) (12 * o + w) := ez14.trans (inv.2.1.2 _ (by omega))
      refine lv_ldc2 (v := (-1)) hx hb hown (hts (.constantLong RX3 57 (-1)) (by decide +kernel)) dX3_joinTo_79 ?_
      refine lv_lxor hx hb dX3_joinTo_82 ?_
      refine lv_land hx hb dX3_joinTo_83 ?_
      refine lv_lor hx hb dX3_joinTo_84 ?_
      refine g_last hx hb hK hG mL3 mK3 (12 * k + w) rfl (by rw [mn3]; omega) (by rw [mn3]; decide) dX3_joinTo_85 (fun H locs hG => ?_)
      refine lv_aload_n hx hb dX3_joinTo_86 rfl (lv_at hl 2 rfl) ?_
      refine r_Model_seen hx hb hts (by decide +kernel) hown hK hG mL0 mK0 mf2 (hts (.fieldLink RX3 7 "DotStoresModel" "seen" "[J") (by decide +kernel)) dX3_joinTo_87 ?_
      refine lv_iload hx hb dX3_joinTo_90 (lv_at hl 0 rfl) ?_
      refine lv_aload_n hx hb dX3_joinTo_92 rfl (lv_at hl 2 rfl) ?_
      refine r_Model_seen hx hb hts (by decide +kernel) hown hK hG mL0 mK0 mf2 (hts (.fieldLink RX3 7 "DotStoresModel" "seen" "[J") (by decide +kernel)) dX3_joinTo_93 ?_
      refine lv_iload hx hb dX3_joinTo_96 (lv_at hl 1 rfl) ?_
      refine g_lald hx hb hK hG mL2 mK2 (12 * o + w) rfl (by rw [mn2]; omega) (by rw [mn2]; decide) dX3_joinTo_98 ?_
      refine lv_topl (fun z15 ez15 => ?_)
      obtain rfl : z15 = rJ (bm 2) (12 * o + w) := ez15.trans ((by rw [g_up_b _ _ _ _ (isMd_ne hMd (show okM 2 by decide) (show okM 3 by decide) (by decide))]; exact inv.2.1.2 _ (by omega)))
      refine lv_aload_n hx hb dX3_joinTo_99 rfl (lv_at hl 2 rfl) ?_
      refine r_Model_seen hx hb hts (by decide +kernel) hown hK hG mL0 mK0 mf2 (hts (.fieldLink RX3 7 "DotStoresModel" "seen" "[J") (by decide +kernel)) dX3_joinTo_100 ?_
      refine lv_iload hx hb dX3_joinTo_103 (lv_at hl 0 rfl) ?_
      refine g_lald hx hb hK hG mL2 mK2 (12 * k + w) rfl (by rw [mn2]; omega) (by rw [mn2]; decide) dX3_joinTo_105 ?_
      refine lv_topl (fun z16 ez16 => ?_)
      obtain rfl : z16 = rJ (bm 2) (12 * k + w) := ez16.trans ((by rw [g_up_b _ _ _ _ (isMd_ne hMd (show okM 2 by decide) (show okM 3 by decide) (by decide))]; exact inv.2.1.2 _ (by omega)))
      refine lv_lor hx hb dX3_joinTo_106 ?_
      refine g_last hx hb hK hG mL2 mK2 (12 * k + w) rfl (by rw [mn2]; omega) (by rw [mn2]; decide) dX3_joinTo_107 (fun H locs hG => ?_)
      refine lv_iinc (v := (nI (w + 1))) (lv' := [(3, .int (nI (w + 1))), (5, .int (nI (12 * k + w))), (4, .int (nI (12 * o + w))), (0, .ref (bm 0)), (1, .int (nI o)), (2, .int (nI k))]) hx hb dX3_joinTo_108 hl (k := 5) rfl (nI_1 w) (by decide) rfl (fun ls hl => ?_)
      refine lv_goto (tgt := 2) hx hb dX3_joinTo_111 (by decide) ?_
      exact ih (w := w + 1) (hl := (lv_sub hl [3, 4, 5, 0] rfl)) (hG := hG) (inv := ⟨by omega, (upR_2 (isMd_ne hMd (show okM 3 by decide) (show okM 2 by decide) (by decide)) inv.2.2.1 inv.2.1 rfl rfl).2, (upR_2 (isMd_ne hMd (show okM 3 by decide) (show okM 2 by decide) (by decide)) inv.2.2.1 inv.2.1 rfl rfl).1, fun b h1 h2 => by rw [g_up_other _ _ _ h1, g_up_other _ _ _ h2]; exact inv.2.2.2 b h1 h2⟩) (hf := by omega)
