set_option maxHeartbeats 4000000 in
set_option maxRecDepth 100000 in
/-- the law's element -/
theorem w_element (l : Launch) (G : gG) (base : Nat) {L : List Nat} {K n : Nat → Nat} {rI : Nat → Nat → Int32} {rJ : Nat → Nat → Int64} {rQ : Nat → Nat → Option Nat} {fI : Nat → Nat → Int32} {fR : Nat → Nat → Option Nat} (hl0 : l.stackTraces = false) {ad : Nat → Nat} {α : aT} (hR : RepX (L, K, n, rI, rJ, rQ, fI, fR) ad α) {oa : Nat} (hLo : oa ∈ L) (hKo : K oa = 5) (hno : n oa = 1) (hio : ¬ inX ad (a_nd α) oa) {i key el : Int32} {on : Bool} : Met l yL_element wsL_element ({ frames := 9, cells := 12, slots := 100, locals := 162 }) (va_Pc [.ref (ad 0), .int i, .int key, .int el, .int (bi on), .ref oa] (g_Py G base (L, K, n, rI, rJ, rQ, fI, fR))) (wQ G base (L, K, n, rI, rJ, rQ, fI, fR) ad α oa (fun c y9 a9 => (c = 0 ∧ ∃ r, r < 6 ∧ i = nI r ∧ (okI i 6 ∧ okI key 16 ∧ okI el 32) ∧ key - key / 4 * 4 = 0 ∧ y9 = (nI (a_nd α)).toInt64 ∧ a9 = aTurn α r key el on) ∨ (a9 = α ∧ ((c = 1 ∧ ¬ (okI i 6 ∧ okI key 16 ∧ okI el 32)) ∨ (c = 2 ∧ (okI i 6 ∧ okI key 16 ∧ okI el 32) ∧ ¬ key - key / 4 * 4 = 0) ∨ (c = 3 ∧ (okI i 6 ∧ okI key 16 ∧ okI el 32) ∧ key - key / 4 * 4 = 0 ∧ ∃ r, r < 6 ∧ i = nI r ∧ ((on = true ∧ ¬ (a_cnt α < 250 ∧ a_g α r < 100)) ∨ ¬ a_nd α < 250)))))) 12 100 (g_A base) := by
  have hDk : isDk L K n fR (ad 0) (ad 1) (ad 2) (ad 3) (ad 35) (ad 4) := hR.1.2.2.1
  have hD : isDt L K n fR (ad 3) (ad 5) (ad 6) (ad 7) (ad 8) (ad 9) (ad 10) := hR.1.2.2.2.1
  have hcnt : fI (ad 3) 6 = nI (a_cnt α) := hR.2.2.2.1.1
  have hmc : fI (ad 0) 5 = nI (a_nd α) := hR.2.1
  have hnd : a_nd α ≤ 250 := hR.1.1
  have hc250 : a_cnt α ≤ 250 := Nat.le_trans hR.2.2.1 hnd
  have hDk0 := hDk
  obtain ⟨hLx, hKx, h0x, h1x, h2x, h3x, h4x, hLra, hKra, hnra, hLma, hKma, hnma, hLod, hKod, hnod⟩ := hDk0
  have hD0 := hD
  obtain ⟨hLd, hKd, h0d, h1d, h2d, h3d, h4d, h5d, hLdr, hKdr, hndr, hLdn, hKdn, hndn, hLdk, hKdk, hndk, hLdp, hKdp, hndp, hLdv, hKdv, hndv, hLdg, hKdg, hndg⟩ := hD0
  refine met_ofWH (cc := cL_element) (maxL := 7) (ret := (some .int)) (hh := [(0, 14, 17, 13), (0, 14, 21, 15), (0, 14, 25, 17)]) (by decide) rfl ?_
  intro p e s m args below meth c s₁ B hml hv
  obtain ⟨rfl, ⟨hPr, hX⟩, hN⟩ := hv
  have hx := B.exec
  have hb := B.bytes
  have hr := B.returns
  have hts := atoms_spec (ws := wsL_element) B.pre
  have hown : s.vm.findClass RL = some m.cls := findClass_of_methodNamed B.named
  have hlocks := B.notSynchronized
  have hin : meth.name = "element" := (name_of_methodNamed B.named B.method).1
  have hK := hPr.2.2
  have hG := hPr.gw
  have htab := vx_table (x := yL_element) B (hts (.codeWith yL_element cL_element 7 (some .int) [(0, 14, 17, 13), (0, 14, 21, 15), (0, 14, 25, 17)]) (by unfold wsL_element; exact List.mem_cons_self))
  have hl := lv_entry ([.ref (ad 0), .int i, .int key, .int el, .int (bi on), .ref oa]) (n := 7) (Nat.le_of_ble_eq_true rfl)
  rw [lg_entry_eq]
  generalize (lg_sl ([.ref (ad 0), .int i, .int key, .int el, .int (bi on), .ref oa]) ++ List.replicate (7 - (lg_sl ([.ref (ad 0), .int i, .int key, .int el, .int (bi on), .ref oa])).length) Slot.unset).toArray = ls at hl ⊢
  have hl : lv_has ls 7 [(0, .ref (ad 0)), (1, .int i), (2, .int key), (3, .int el), (4, .int (bi on)), (5, .ref oa)] := hl
  refine g_start hPr (fun H locs hG => ?_)
  refine lv_aload hx hb dL_element_0 (lv_at hl 5 rfl) ?_
  refine lv_iconst (v := 0) hx hb dL_element_2 (by decide) ?_
  refine lv_aload_n hx hb dL_element_3 rfl (lv_at hl 0 rfl) ?_
  refine lv_iload_n hx hb dL_element_4 rfl (lv_at hl 1 rfl) ?_
  refine lv_iload_n hx hb dL_element_5 rfl (lv_at hl 2 rfl) ?_
  refine lv_iload_n hx hb dL_element_6 rfl (lv_at hl 3 rfl) ?_
  refine lv_iload hx hb dL_element_7 (lv_at hl 4 rfl) ?_
  refine g_xi (vx_runV (As := [.int i, .int key, .int el, .int (bi on)]) (rest := [.int 0, .ref oa]) ⟨hx, hb, hml, hown, hts⟩ (c_element l G base hl0 hR (i := i) (key := key) (el := el) (on := on)) (cwV 4 hts gL_element_X2_element rfl rfl rfl (by decide +kernel) ⟨(Nat.le_of_ble_eq_true rfl), (Nat.le_of_ble_eq_true rfl)⟩) (g_px2 hK hX hG hLx hKx) rfl rfl hl.1 rfl (lv_room (Nat.le_of_ble_eq_true rfl)) dL_element_9 ⟨(Nat.le_of_ble_eq_true rfl), (Nat.le_of_ble_eq_true rfl)⟩) hG (fun E ce q9 H locs hpx hG hce hcv hcl => ?_) (fun y1 u H locs hp hG => ?_)
  · rcases hpx with ⟨rfl, h1⟩ | ⟨rfl, h1⟩ | ⟨rfl, h1⟩
    · refine vx_catch (own := RL) (name := "java/lang/IndexOutOfBoundsException") hown ([] : List ExceptionTableEntry) (⟨0, 14, 17, 13⟩ : ExceptionTableEntry) ([⟨0, 14, 21, 15⟩, ⟨0, 14, 25, 17⟩] : List ExceptionTableEntry) (by rw [htab]; rfl) (fun z hz => nomatch hz) (by decide) (by decide) (hts (.classLink RL 13 "java/lang/IndexOutOfBoundsException") (by decide +kernel)) (va_Nw.use rfl hN.1.1) hce hcv hcl ?_
      refine lv_astore (lv' := [(6, .ref q9), (0, .ref (ad 0)), (1, .int i), (2, .int key), (3, .int el), (4, .int (bi on)), (5, .ref oa)]) hx hb dL_element_17 hl (by decide) rfl (fun ls hl => ?_)
      refine lv_iconst (v := 1) hx hb dL_element_19 (by decide) ?_
      refine W.widen (k := 12) (n := 100) (by omega) (by omega) ?_
      exact W.iret (v := 1) hx hb hr (fun t9 h9 hW9 => ⟨⟨1, ((L, K, n, rI, rJ, rQ, fI, fR), ad, α), rfl, ⟨1, rfl, stpO_id (StpX.rf hR), Or.inr ⟨rfl, Or.inl ⟨rfl, h1⟩⟩⟩, hG.at h9⟩, hG.2.2.1.F h9⟩) hG.2.2.1.2.2 dL_element_20
    · refine vx_catch (own := RL) (name := "java/lang/UnsupportedOperationException") hown ([⟨0, 14, 17, 13⟩] : List ExceptionTableEntry) (⟨0, 14, 21, 15⟩ : ExceptionTableEntry) ([⟨0, 14, 25, 17⟩] : List ExceptionTableEntry) (by rw [htab]; rfl) (fun z hz => by
        rcases List.mem_cons.mp hz with q | hz
        · subst q; exact Or.inr ⟨by decide, _, (hts (.classLink RL 13 "java/lang/IndexOutOfBoundsException") (by decide +kernel)), hN.2.1⟩
        · exact nomatch hz) (by decide) (by decide) (hts (.classLink RL 15 "java/lang/UnsupportedOperationException") (by decide +kernel)) (va_Nw.use rfl hN.1.2.1) hce hcv hcl ?_
      refine lv_astore (lv' := [(6, .ref q9), (0, .ref (ad 0)), (1, .int i), (2, .int key), (3, .int el), (4, .int (bi on)), (5, .ref oa)]) hx hb dL_element_21 hl (by decide) rfl (fun ls hl => ?_)
      refine lv_iconst (v := 2) hx hb dL_element_23 (by decide) ?_
      refine W.widen (k := 12) (n := 100) (by omega) (by omega) ?_
      exact W.iret (v := 2) hx hb hr (fun t9 h9 hW9 => ⟨⟨2, ((L, K, n, rI, rJ, rQ, fI, fR), ad, α), rfl, ⟨2, rfl, stpO_id (StpX.rf hR), Or.inr ⟨rfl, Or.inr (Or.inl ⟨rfl, h1⟩)⟩⟩, hG.at h9⟩, hG.2.2.1.F h9⟩) hG.2.2.1.2.2 dL_element_24
    · refine vx_catch (own := RL) (name := "java/lang/IllegalStateException") hown ([⟨0, 14, 17, 13⟩, ⟨0, 14, 21, 15⟩] : List ExceptionTableEntry) (⟨0, 14, 25, 17⟩ : ExceptionTableEntry) ([] : List ExceptionTableEntry) (by rw [htab]; rfl) (fun z hz => by
        rcases List.mem_cons.mp hz with q | hz
        · subst q; exact Or.inr ⟨by decide, _, (hts (.classLink RL 13 "java/lang/IndexOutOfBoundsException") (by decide +kernel)), hN.2.2.1⟩
        · rw [List.mem_singleton.mp hz]; exact Or.inr ⟨by decide, _, (hts (.classLink RL 15 "java/lang/UnsupportedOperationException") (by decide +kernel)), hN.2.2.2.1⟩) (by decide) (by decide) (hts (.classLink RL 17 "java/lang/IllegalStateException") (by decide +kernel)) (va_Nw.use rfl hN.1.2.2.1) hce hcv hcl ?_
      refine lv_astore (lv' := [(6, .ref q9), (0, .ref (ad 0)), (1, .int i), (2, .int key), (3, .int el), (4, .int (bi on)), (5, .ref oa)]) hx hb dL_element_25 hl (by decide) rfl (fun ls hl => ?_)
      refine lv_iconst (v := 3) hx hb dL_element_27 (by decide) ?_
      refine W.widen (k := 12) (n := 100) (by omega) (by omega) ?_
      exact W.iret (v := 3) hx hb hr (fun t9 h9 hW9 => ⟨⟨3, ((L, K, n, rI, rJ, rQ, fI, fR), ad, α), rfl, ⟨3, rfl, stpO_id (StpX.rf hR), Or.inr ⟨rfl, Or.inr (Or.inr ⟨rfl, h1⟩)⟩⟩, hG.at h9⟩, hG.2.2.1.F h9⟩) hG.2.2.1.2.2 dL_element_28
    -- 
  obtain ⟨⟨⟨L1, K1, n1, i1, j1, q1, f1, R1⟩, ad1⟩, r⟩ := u
  replace hG : gw G base s.heap (L1, K1, n1, i1, j1, q1, f1, R1) H locs := hG
  obtain ⟨⟨hr6, hri⟩, hok, hkd, hx1, hSt⟩ := hp
  replace hx1 : y1 = (nI (a_nd α)) := hx1
  subst hx1
  replace hSt : StpX (L, K, n, rI, rJ, rQ, fI, fR) ad α (L1, K1, n1, i1, j1, q1, f1, R1) ad1 (aTurn α r key el on) := hSt
  have hko := hSt.2.1 oa hLo
  have hLo1 : oa ∈ L1 := hko.1
  have hKo1 : K1 oa = 5 := hko.2.1.trans hKo
  have hno1 : n1 oa = 1 := hko.2.2.1.trans hno
  refine lv_i2l hx hb dL_element_12 rfl ?_
  refine g_last hx hb hK hG hLo1 hKo1 (0) rfl (by rw [hno1]; decide) (by rw [hno1]; decide) dL_element_13 (fun H locs hG => ?_)
  refine lv_goto (tgt := 29) hx hb dL_element_14 (by decide) ?_
  refine lv_iconst (v := 0) hx hb dL_element_29 (by decide) ?_
  refine W.widen (k := 12) (n := 100) (by omega) (by omega) ?_
  exact W.iret (v := 0) hx hb hr (fun t9 h9 hW9 => ⟨⟨0, ((L1, K1, n1, i1, g_up j1 oa 0 (((nI (a_nd α))).toInt64), q1, f1, R1), ad1, aTurn α r key el on), rfl, ⟨0, rfl, stpO_of hSt hLo hio, Or.inl ⟨rfl, r, hr6, hri, hok, hkd, g_up_at _ _ _ _, rfl⟩⟩, hG.at h9⟩, hG.2.2.1.F h9⟩) hG.2.2.1.2.2 dL_element_30
set_option maxHeartbeats 4000000 in
set_option maxRecDepth 100000 in
/-- the law's flag -/
theorem w_flag (l : Launch) (G : gG) (base : Nat) {L : List Nat} {K n : Nat → Nat} {rI : Nat → Nat → Int32} {rJ : Nat → Nat → Int64} {rQ : Nat → Nat → Option Nat} {fI : Nat → Nat → Int32} {fR : Nat → Nat → Option Nat} (hl0 : l.stackTraces = false) {ad : Nat → Nat} {α : aT} (hR : RepX (L, K, n, rI, rJ, rQ, fI, fR) ad α) {oa : Nat} (hLo : oa ∈ L) (hKo : K oa = 5) (hno : n oa = 1) (hio : ¬ inX ad (a_nd α) oa) {i key el : Int32} {on : Bool} : Met l yL_flag wsL_flag ({ frames := 9, cells := 12, slots := 100, locals := 162 }) (va_Pc [.ref (ad 0), .int i, .int key, .int el, .int (bi on), .ref oa] (g_Py G base (L, K, n, rI, rJ, rQ, fI, fR))) (wQ G base (L, K, n, rI, rJ, rQ, fI, fR) ad α oa (fun c y9 a9 => (c = 0 ∧ ∃ r, r < 6 ∧ i = nI r ∧ (okI i 6 ∧ okI key 16 ∧ okI el 8) ∧ key - key / 4 * 4 = 3 ∧ y9 = (nI (a_nd α)).toInt64 ∧ a9 = aTurn α r key el on) ∨ (a9 = α ∧ ((c = 1 ∧ ¬ (okI i 6 ∧ okI key 16 ∧ okI el 8)) ∨ (c = 2 ∧ (okI i 6 ∧ okI key 16 ∧ okI el 8) ∧ ¬ key - key / 4 * 4 = 3) ∨ (c = 3 ∧ (okI i 6 ∧ okI key 16 ∧ okI el 8) ∧ key - key / 4 * 4 = 3 ∧ ∃ r, r < 6 ∧ i = nI r ∧ ((on = true ∧ ¬ (a_cnt α < 250 ∧ a_g α r < 100)) ∨ ¬ a_nd α < 250)))))) 12 100 (g_A base) := by
  have hDk : isDk L K n fR (ad 0) (ad 1) (ad 2) (ad 3) (ad 35) (ad 4) := hR.1.2.2.1
  have hD : isDt L K n fR (ad 3) (ad 5) (ad 6) (ad 7) (ad 8) (ad 9) (ad 10) := hR.1.2.2.2.1
  have hcnt : fI (ad 3) 6 = nI (a_cnt α) := hR.2.2.2.1.1
  have hmc : fI (ad 0) 5 = nI (a_nd α) := hR.2.1
  have hnd : a_nd α ≤ 250 := hR.1.1
  have hc250 : a_cnt α ≤ 250 := Nat.le_trans hR.2.2.1 hnd
  have hDk0 := hDk
  obtain ⟨hLx, hKx, h0x, h1x, h2x, h3x, h4x, hLra, hKra, hnra, hLma, hKma, hnma, hLod, hKod, hnod⟩ := hDk0
  have hD0 := hD
  obtain ⟨hLd, hKd, h0d, h1d, h2d, h3d, h4d, h5d, hLdr, hKdr, hndr, hLdn, hKdn, hndn, hLdk, hKdk, hndk, hLdp, hKdp, hndp, hLdv, hKdv, hndv, hLdg, hKdg, hndg⟩ := hD0
  refine met_ofWH (cc := cL_flag) (maxL := 7) (ret := (some .int)) (hh := [(0, 14, 17, 13), (0, 14, 21, 15), (0, 14, 25, 17)]) (by decide) rfl ?_
  intro p e s m args below meth c s₁ B hml hv
  obtain ⟨rfl, ⟨hPr, hX⟩, hN⟩ := hv
  have hx := B.exec
  have hb := B.bytes
  have hr := B.returns
  have hts := atoms_spec (ws := wsL_flag) B.pre
  have hown : s.vm.findClass RL = some m.cls := findClass_of_methodNamed B.named
  have hlocks := B.notSynchronized
  have hin : meth.name = "flag" := (name_of_methodNamed B.named B.method).1
  have hK := hPr.2.2
  have hG := hPr.gw
  have htab := vx_table (x := yL_flag) B (hts (.codeWith yL_flag cL_flag 7 (some .int) [(0, 14, 17, 13), (0, 14, 21, 15), (0, 14, 25, 17)]) (by unfold wsL_flag; exact List.mem_cons_self))
  have hl := lv_entry ([.ref (ad 0), .int i, .int key, .int el, .int (bi on), .ref oa]) (n := 7) (Nat.le_of_ble_eq_true rfl)
  rw [lg_entry_eq]
  generalize (lg_sl ([.ref (ad 0), .int i, .int key, .int el, .int (bi on), .ref oa]) ++ List.replicate (7 - (lg_sl ([.ref (ad 0), .int i, .int key, .int el, .int (bi on), .ref oa])).length) Slot.unset).toArray = ls at hl ⊢
  have hl : lv_has ls 7 [(0, .ref (ad 0)), (1, .int i), (2, .int key), (3, .int el), (4, .int (bi on)), (5, .ref oa)] := hl
  refine g_start hPr (fun H locs hG => ?_)
  refine lv_aload hx hb dL_flag_0 (lv_at hl 5 rfl) ?_
  refine lv_iconst (v := 0) hx hb dL_flag_2 (by decide) ?_
  refine lv_aload_n hx hb dL_flag_3 rfl (lv_at hl 0 rfl) ?_
  refine lv_iload_n hx hb dL_flag_4 rfl (lv_at hl 1 rfl) ?_
  refine lv_iload_n hx hb dL_flag_5 rfl (lv_at hl 2 rfl) ?_
  refine lv_iload_n hx hb dL_flag_6 rfl (lv_at hl 3 rfl) ?_
  refine lv_iload hx hb dL_flag_7 (lv_at hl 4 rfl) ?_
  refine g_xi (vx_runV (As := [.int i, .int key, .int el, .int (bi on)]) (rest := [.int 0, .ref oa]) ⟨hx, hb, hml, hown, hts⟩ (c_flag l G base hl0 hR (i := i) (key := key) (el := el) (on := on)) (cwV 4 hts gL_flag_X2_flag rfl rfl rfl (by decide +kernel) ⟨(Nat.le_of_ble_eq_true rfl), (Nat.le_of_ble_eq_true rfl)⟩) (g_px2 hK hX hG hLx hKx) rfl rfl hl.1 rfl (lv_room (Nat.le_of_ble_eq_true rfl)) dL_flag_9 ⟨(Nat.le_of_ble_eq_true rfl), (Nat.le_of_ble_eq_true rfl)⟩) hG (fun E ce q9 H locs hpx hG hce hcv hcl => ?_) (fun y1 u H locs hp hG => ?_)
  · rcases hpx with ⟨rfl, h1⟩ | ⟨rfl, h1⟩ | ⟨rfl, h1⟩
    · refine vx_catch (own := RL) (name := "java/lang/IndexOutOfBoundsException") hown ([] : List ExceptionTableEntry) (⟨0, 14, 17, 13⟩ : ExceptionTableEntry) ([⟨0, 14, 21, 15⟩, ⟨0, 14, 25, 17⟩] : List ExceptionTableEntry) (by rw [htab]; rfl) (fun z hz => nomatch hz) (by decide) (by decide) (hts (.classLink RL 13 "java/lang/IndexOutOfBoundsException") (by decide +kernel)) (va_Nw.use rfl hN.1.1) hce hcv hcl ?_
      refine lv_astore (lv' := [(6, .ref q9), (0, .ref (ad 0)), (1, .int i), (2, .int key), (3, .int el), (4, .int (bi on)), (5, .ref oa)]) hx hb dL_flag_17 hl (by decide) rfl (fun ls hl => ?_)
      refine lv_iconst (v := 1) hx hb dL_flag_19 (by decide) ?_
      refine W.widen (k := 12) (n := 100) (by omega) (by omega) ?_
      exact W.iret (v := 1) hx hb hr (fun t9 h9 hW9 => ⟨⟨1, ((L, K, n, rI, rJ, rQ, fI, fR), ad, α), rfl, ⟨1, rfl, stpO_id (StpX.rf hR), Or.inr ⟨rfl, Or.inl ⟨rfl, h1⟩⟩⟩, hG.at h9⟩, hG.2.2.1.F h9⟩) hG.2.2.1.2.2 dL_flag_20
    · refine vx_catch (own := RL) (name := "java/lang/UnsupportedOperationException") hown ([⟨0, 14, 17, 13⟩] : List ExceptionTableEntry) (⟨0, 14, 21, 15⟩ : ExceptionTableEntry) ([⟨0, 14, 25, 17⟩] : List ExceptionTableEntry) (by rw [htab]; rfl) (fun z hz => by
        rcases List.mem_cons.mp hz with q | hz
        · subst q; exact Or.inr ⟨by decide, _, (hts (.classLink RL 13 "java/lang/IndexOutOfBoundsException") (by decide +kernel)), hN.2.1⟩
        · exact nomatch hz) (by decide) (by decide) (hts (.classLink RL 15 "java/lang/UnsupportedOperationException") (by decide +kernel)) (va_Nw.use rfl hN.1.2.1) hce hcv hcl ?_
      refine lv_astore (lv' := [(6, .ref q9), (0, .ref (ad 0)), (1, .int i), (2, .int key), (3, .int el), (4, .int (bi on)), (5, .ref oa)]) hx hb dL_flag_21 hl (by decide) rfl (fun ls hl => ?_)
      refine lv_iconst (v := 2) hx hb dL_flag_23 (by decide) ?_
      refine W.widen (k := 12) (n := 100) (by omega) (by omega) ?_
      exact W.iret (v := 2) hx hb hr (fun t9 h9 hW9 => ⟨⟨2, ((L, K, n, rI, rJ, rQ, fI, fR), ad, α), rfl, ⟨2, rfl, stpO_id (StpX.rf hR), Or.inr ⟨rfl, Or.inr (Or.inl ⟨rfl, h1⟩)⟩⟩, hG.at h9⟩, hG.2.2.1.F h9⟩) hG.2.2.1.2.2 dL_flag_24
    · refine vx_catch (own := RL) (name := "java/lang/IllegalStateException") hown ([⟨0, 14, 17, 13⟩, ⟨0, 14, 21, 15⟩] : List ExceptionTableEntry) (⟨0, 14, 25, 17⟩ : ExceptionTableEntry) ([] : List ExceptionTableEntry) (by rw [htab]; rfl) (fun z hz => by
        rcases List.mem_cons.mp hz with q | hz
        · subst q; exact Or.inr ⟨by decide, _, (hts (.classLink RL 13 "java/lang/IndexOutOfBoundsException") (by decide +kernel)), hN.2.2.1⟩
        · rw [List.mem_singleton.mp hz]; exact Or.inr ⟨by decide, _, (hts (.classLink RL 15 "java/lang/UnsupportedOperationException") (by decide +kernel)), hN.2.2.2.1⟩) (by decide) (by decide) (hts (.classLink RL 17 "java/lang/IllegalStateException") (by decide +kernel)) (va_Nw.use rfl hN.1.2.2.1) hce hcv hcl ?_
      refine lv_astore (lv' := [(6, .ref q9), (0, .ref (ad 0)), (1, .int i), (2, .int key), (3, .int el), (4, .int (bi on)), (5, .ref oa)]) hx hb dL_flag_25 hl (by decide) rfl (fun ls hl => ?_)
      refine lv_iconst (v := 3) hx hb dL_flag_27 (by decide) ?_
      refine W.widen (k := 12) (n := 100) (by omega) (by omega) ?_
      exact W.iret (v := 3) hx hb hr (fun t9 h9 hW9 => ⟨⟨3, ((L, K, n, rI, rJ, rQ, fI, fR), ad, α), rfl, ⟨3, rfl, stpO_id (StpX.rf hR), Or.inr ⟨rfl, Or.inr (Or.inr ⟨rfl, h1⟩)⟩⟩, hG.at h9⟩, hG.2.2.1.F h9⟩) hG.2.2.1.2.2 dL_flag_28
    -- 
  obtain ⟨⟨⟨L1, K1, n1, i1, j1, q1, f1, R1⟩, ad1⟩, r⟩ := u
  replace hG : gw G base s.heap (L1, K1, n1, i1, j1, q1, f1, R1) H locs := hG
  obtain ⟨⟨hr6, hri⟩, hok, hkd, hx1, hSt⟩ := hp
  replace hx1 : y1 = (nI (a_nd α)) := hx1
  subst hx1
  replace hSt : StpX (L, K, n, rI, rJ, rQ, fI, fR) ad α (L1, K1, n1, i1, j1, q1, f1, R1) ad1 (aTurn α r key el on) := hSt
  have hko := hSt.2.1 oa hLo
  have hLo1 : oa ∈ L1 := hko.1
  have hKo1 : K1 oa = 5 := hko.2.1.trans hKo
  have hno1 : n1 oa = 1 := hko.2.2.1.trans hno
  refine lv_i2l hx hb dL_flag_12 rfl ?_
  refine g_last hx hb hK hG hLo1 hKo1 (0) rfl (by rw [hno1]; decide) (by rw [hno1]; decide) dL_flag_13 (fun H locs hG => ?_)
  refine lv_goto (tgt := 29) hx hb dL_flag_14 (by decide) ?_
  refine lv_iconst (v := 0) hx hb dL_flag_29 (by decide) ?_
  refine W.widen (k := 12) (n := 100) (by omega) (by omega) ?_
  exact W.iret (v := 0) hx hb hr (fun t9 h9 hW9 => ⟨⟨0, ((L1, K1, n1, i1, g_up j1 oa 0 (((nI (a_nd α))).toInt64), q1, f1, R1), ad1, aTurn α r key el on), rfl, ⟨0, rfl, stpO_of hSt hLo hio, Or.inl ⟨rfl, r, hr6, hri, hok, hkd, g_up_at _ _ _ _, rfl⟩⟩, hG.at h9⟩, hG.2.2.1.F h9⟩) hG.2.2.1.2.2 dL_flag_30
set_option maxHeartbeats 4000000 in
set_option maxRecDepth 100000 in
/-- the law's write -/
theorem w_write (l : Launch) (G : gG) (base : Nat) {L : List Nat} {K n : Nat → Nat} {rI : Nat → Nat → Int32} {rJ : Nat → Nat → Int64} {rQ : Nat → Nat → Option Nat} {fI : Nat → Nat → Int32} {fR : Nat → Nat → Option Nat} (hl0 : l.stackTraces = false) {ad : Nat → Nat} {α : aT} (hR : RepX (L, K, n, rI, rJ, rQ, fI, fR) ad α) {oa : Nat} (hLo : oa ∈ L) (hKo : K oa = 5) (hno : n oa = 1) (hio : ¬ inX ad (a_nd α) oa) {i key : Int32} {v : Int64} : Met l yL_write wsL_write ({ frames := 8, cells := 12, slots := 100, locals := 137 }) (va_Pc [.ref (ad 0), .int i, .int key, .long v, .ref oa] (g_Py G base (L, K, n, rI, rJ, rQ, fI, fR))) (wQ G base (L, K, n, rI, rJ, rQ, fI, fR) ad α oa (fun c y9 a9 => (c = 0 ∧ ∃ r, r < 6 ∧ i = nI r ∧ (okI i 6 ∧ okI key 16) ∧ key - key / 4 * 4 = 1 ∧ y9 = (nI (a_nd α)).toInt64 ∧ a9 = aWrite α r key v) ∨ (a9 = α ∧ ((c = 1 ∧ ¬ (okI i 6 ∧ okI key 16)) ∨ (c = 2 ∧ (okI i 6 ∧ okI key 16) ∧ ¬ key - key / 4 * 4 = 1) ∨ (c = 3 ∧ (okI i 6 ∧ okI key 16) ∧ key - key / 4 * 4 = 1 ∧ ∃ r, r < 6 ∧ i = nI r ∧ (¬ (a_cnt α < 250 ∧ a_g α r < 100) ∨ ¬ a_nd α < 250)))))) 12 100 (g_A base) := by
  have hDk : isDk L K n fR (ad 0) (ad 1) (ad 2) (ad 3) (ad 35) (ad 4) := hR.1.2.2.1
  have hD : isDt L K n fR (ad 3) (ad 5) (ad 6) (ad 7) (ad 8) (ad 9) (ad 10) := hR.1.2.2.2.1
  have hcnt : fI (ad 3) 6 = nI (a_cnt α) := hR.2.2.2.1.1
  have hmc : fI (ad 0) 5 = nI (a_nd α) := hR.2.1
  have hnd : a_nd α ≤ 250 := hR.1.1
  have hc250 : a_cnt α ≤ 250 := Nat.le_trans hR.2.2.1 hnd
  have hDk0 := hDk
  obtain ⟨hLx, hKx, h0x, h1x, h2x, h3x, h4x, hLra, hKra, hnra, hLma, hKma, hnma, hLod, hKod, hnod⟩ := hDk0
  have hD0 := hD
  obtain ⟨hLd, hKd, h0d, h1d, h2d, h3d, h4d, h5d, hLdr, hKdr, hndr, hLdn, hKdn, hndn, hLdk, hKdk, hndk, hLdp, hKdp, hndp, hLdv, hKdv, hndv, hLdg, hKdg, hndg⟩ := hD0
  refine met_ofWH (cc := cL_write) (maxL := 7) (ret := (some .int)) (hh := [(0, 12, 15, 13), (0, 12, 19, 15), (0, 12, 23, 17)]) (by decide) rfl ?_
  intro p e s m args below meth c s₁ B hml hv
  obtain ⟨rfl, ⟨hPr, hX⟩, hN⟩ := hv
  have hx := B.exec
  have hb := B.bytes
  have hr := B.returns
  have hts := atoms_spec (ws := wsL_write) B.pre
  have hown : s.vm.findClass RL = some m.cls := findClass_of_methodNamed B.named
  have hlocks := B.notSynchronized
  have hin : meth.name = "write" := (name_of_methodNamed B.named B.method).1
  have hK := hPr.2.2
  have hG := hPr.gw
  have htab := vx_table (x := yL_write) B (hts (.codeWith yL_write cL_write 7 (some .int) [(0, 12, 15, 13), (0, 12, 19, 15), (0, 12, 23, 17)]) (by unfold wsL_write; exact List.mem_cons_self))
  have hl := lv_entry ([.ref (ad 0), .int i, .int key, .long v, .ref oa]) (n := 7) (Nat.le_of_ble_eq_true rfl)
  rw [lg_entry_eq]
  generalize (lg_sl ([.ref (ad 0), .int i, .int key, .long v, .ref oa]) ++ List.replicate (7 - (lg_sl ([.ref (ad 0), .int i, .int key, .long v, .ref oa])).length) Slot.unset).toArray = ls at hl ⊢
  have hl : lv_has ls 7 [(0, .ref (ad 0)), (1, .int i), (2, .int key), (3, .long v), (5, .ref oa)] := hl
  refine g_start hPr (fun H locs hG => ?_)
  refine lv_aload hx hb dL_write_0 (lv_at hl 4 rfl) ?_
  refine lv_iconst (v := 0) hx hb dL_write_2 (by decide) ?_
  refine lv_aload_n hx hb dL_write_3 rfl (lv_at hl 0 rfl) ?_
  refine lv_iload_n hx hb dL_write_4 rfl (lv_at hl 1 rfl) ?_
  refine lv_iload_n hx hb dL_write_5 rfl (lv_at hl 2 rfl) ?_
  refine lv_lload_n hx hb dL_write_6 rfl (lv_at hl 3 rfl) ?_
  refine g_xi (vx_runV (As := [.int i, .int key, .long v]) (rest := [.int 0, .ref oa]) ⟨hx, hb, hml, hown, hts⟩ (c_write l G base hl0 hR (i := i) (key := key) (v := v)) (cwV 3 hts gL_write_X2_write rfl rfl rfl (by decide +kernel) ⟨(Nat.le_of_ble_eq_true rfl), (Nat.le_of_ble_eq_true rfl)⟩) (g_px2 hK hX hG hLx hKx) rfl rfl hl.1 rfl (lv_room (Nat.le_of_ble_eq_true rfl)) dL_write_7 ⟨(Nat.le_of_ble_eq_true rfl), (Nat.le_of_ble_eq_true rfl)⟩) hG (fun E ce q9 H locs hpx hG hce hcv hcl => ?_) (fun y1 u H locs hp hG => ?_)
  · rcases hpx with ⟨rfl, h1⟩ | ⟨rfl, h1⟩ | ⟨rfl, h1⟩
    · refine vx_catch (own := RL) (name := "java/lang/IndexOutOfBoundsException") hown ([] : List ExceptionTableEntry) (⟨0, 12, 15, 13⟩ : ExceptionTableEntry) ([⟨0, 12, 19, 15⟩, ⟨0, 12, 23, 17⟩] : List ExceptionTableEntry) (by rw [htab]; rfl) (fun z hz => nomatch hz) (by decide) (by decide) (hts (.classLink RL 13 "java/lang/IndexOutOfBoundsException") (by decide +kernel)) (va_Nw.use rfl hN.1.1) hce hcv hcl ?_
      refine lv_astore (lv' := [(6, .ref q9), (0, .ref (ad 0)), (1, .int i), (2, .int key), (3, .long v), (5, .ref oa)]) hx hb dL_write_15 hl (by decide) rfl (fun ls hl => ?_)
      refine lv_iconst (v := 1) hx hb dL_write_17 (by decide) ?_
      refine W.widen (k := 12) (n := 100) (by omega) (by omega) ?_
      exact W.iret (v := 1) hx hb hr (fun t9 h9 hW9 => ⟨⟨1, ((L, K, n, rI, rJ, rQ, fI, fR), ad, α), rfl, ⟨1, rfl, stpO_id (StpX.rf hR), Or.inr ⟨rfl, Or.inl ⟨rfl, h1⟩⟩⟩, hG.at h9⟩, hG.2.2.1.F h9⟩) hG.2.2.1.2.2 dL_write_18
    · refine vx_catch (own := RL) (name := "java/lang/UnsupportedOperationException") hown ([⟨0, 12, 15, 13⟩] : List ExceptionTableEntry) (⟨0, 12, 19, 15⟩ : ExceptionTableEntry) ([⟨0, 12, 23, 17⟩] : List ExceptionTableEntry) (by rw [htab]; rfl) (fun z hz => by
        rcases List.mem_cons.mp hz with q | hz
        · subst q; exact Or.inr ⟨by decide, _, (hts (.classLink RL 13 "java/lang/IndexOutOfBoundsException") (by decide +kernel)), hN.2.1⟩
        · exact nomatch hz) (by decide) (by decide) (hts (.classLink RL 15 "java/lang/UnsupportedOperationException") (by decide +kernel)) (va_Nw.use rfl hN.1.2.1) hce hcv hcl ?_
      refine lv_astore (lv' := [(6, .ref q9), (0, .ref (ad 0)), (1, .int i), (2, .int key), (3, .long v), (5, .ref oa)]) hx hb dL_write_19 hl (by decide) rfl (fun ls hl => ?_)
      refine lv_iconst (v := 2) hx hb dL_write_21 (by decide) ?_
      refine W.widen (k := 12) (n := 100) (by omega) (by omega) ?_
      exact W.iret (v := 2) hx hb hr (fun t9 h9 hW9 => ⟨⟨2, ((L, K, n, rI, rJ, rQ, fI, fR), ad, α), rfl, ⟨2, rfl, stpO_id (StpX.rf hR), Or.inr ⟨rfl, Or.inr (Or.inl ⟨rfl, h1⟩)⟩⟩, hG.at h9⟩, hG.2.2.1.F h9⟩) hG.2.2.1.2.2 dL_write_22
    · refine vx_catch (own := RL) (name := "java/lang/IllegalStateException") hown ([⟨0, 12, 15, 13⟩, ⟨0, 12, 19, 15⟩] : List ExceptionTableEntry) (⟨0, 12, 23, 17⟩ : ExceptionTableEntry) ([] : List ExceptionTableEntry) (by rw [htab]; rfl) (fun z hz => by
        rcases List.mem_cons.mp hz with q | hz
        · subst q; exact Or.inr ⟨by decide, _, (hts (.classLink RL 13 "java/lang/IndexOutOfBoundsException") (by decide +kernel)), hN.2.2.1⟩
        · rw [List.mem_singleton.mp hz]; exact Or.inr ⟨by decide, _, (hts (.classLink RL 15 "java/lang/UnsupportedOperationException") (by decide +kernel)), hN.2.2.2.1⟩) (by decide) (by decide) (hts (.classLink RL 17 "java/lang/IllegalStateException") (by decide +kernel)) (va_Nw.use rfl hN.1.2.2.1) hce hcv hcl ?_
      refine lv_astore (lv' := [(6, .ref q9), (0, .ref (ad 0)), (1, .int i), (2, .int key), (3, .long v), (5, .ref oa)]) hx hb dL_write_23 hl (by decide) rfl (fun ls hl => ?_)
      refine lv_iconst (v := 3) hx hb dL_write_25 (by decide) ?_
      refine W.widen (k := 12) (n := 100) (by omega) (by omega) ?_
      exact W.iret (v := 3) hx hb hr (fun t9 h9 hW9 => ⟨⟨3, ((L, K, n, rI, rJ, rQ, fI, fR), ad, α), rfl, ⟨3, rfl, stpO_id (StpX.rf hR), Or.inr ⟨rfl, Or.inr (Or.inr ⟨rfl, h1⟩)⟩⟩, hG.at h9⟩, hG.2.2.1.F h9⟩) hG.2.2.1.2.2 dL_write_26
    -- 
  obtain ⟨⟨⟨L1, K1, n1, i1, j1, q1, f1, R1⟩, ad1⟩, r⟩ := u
  replace hG : gw G base s.heap (L1, K1, n1, i1, j1, q1, f1, R1) H locs := hG
  obtain ⟨⟨hr6, hri⟩, hok, hkd, hx1, hSt⟩ := hp
  replace hx1 : y1 = (nI (a_nd α)) := hx1
  subst hx1
  replace hSt : StpX (L, K, n, rI, rJ, rQ, fI, fR) ad α (L1, K1, n1, i1, j1, q1, f1, R1) ad1 (aWrite α r key v) := hSt
  have hko := hSt.2.1 oa hLo
  have hLo1 : oa ∈ L1 := hko.1
  have hKo1 : K1 oa = 5 := hko.2.1.trans hKo
  have hno1 : n1 oa = 1 := hko.2.2.1.trans hno
  refine lv_i2l hx hb dL_write_10 rfl ?_
  refine g_last hx hb hK hG hLo1 hKo1 (0) rfl (by rw [hno1]; decide) (by rw [hno1]; decide) dL_write_11 (fun H locs hG => ?_)
  refine lv_goto (tgt := 27) hx hb dL_write_12 (by decide) ?_
  refine lv_iconst (v := 0) hx hb dL_write_27 (by decide) ?_
  refine W.widen (k := 12) (n := 100) (by omega) (by omega) ?_
  exact W.iret (v := 0) hx hb hr (fun t9 h9 hW9 => ⟨⟨0, ((L1, K1, n1, i1, g_up j1 oa 0 (((nI (a_nd α))).toInt64), q1, f1, R1), ad1, aWrite α r key v), rfl, ⟨0, rfl, stpO_of hSt hLo hio, Or.inl ⟨rfl, r, hr6, hri, hok, hkd, g_up_at _ _ _ _, rfl⟩⟩, hG.at h9⟩, hG.2.2.1.F h9⟩) hG.2.2.1.2.2 dL_write_28
set_option maxHeartbeats 4000000 in
set_option maxRecDepth 100000 in
/-- the law's count -/
theorem w_count (l : Launch) (G : gG) (base : Nat) {L : List Nat} {K n : Nat → Nat} {rI : Nat → Nat → Int32} {rJ : Nat → Nat → Int64} {rQ : Nat → Nat → Option Nat} {fI : Nat → Nat → Int32} {fR : Nat → Nat → Option Nat} (hl0 : l.stackTraces = false) {ad : Nat → Nat} {α : aT} (hR : RepX (L, K, n, rI, rJ, rQ, fI, fR) ad α) {oa : Nat} (hLo : oa ∈ L) (hKo : K oa = 5) (hno : n oa = 1) (hio : ¬ inX ad (a_nd α) oa) {i key : Int32} {v : Int64} : Met l yL_count wsL_count ({ frames := 8, cells := 12, slots := 100, locals := 139 }) (va_Pc [.ref (ad 0), .int i, .int key, .long v, .ref oa] (g_Py G base (L, K, n, rI, rJ, rQ, fI, fR))) (wQ G base (L, K, n, rI, rJ, rQ, fI, fR) ad α oa (fun c y9 a9 => (c = 0 ∧ ∃ r, r < 6 ∧ i = nI r ∧ (okI i 6 ∧ okI key 16) ∧ key - key / 4 * 4 = 2 ∧ y9 = (nI (a_nd α)).toInt64 ∧ a9 = aCount α r key v) ∨ (a9 = α ∧ ((c = 1 ∧ ¬ (okI i 6 ∧ okI key 16)) ∨ (c = 2 ∧ (okI i 6 ∧ okI key 16) ∧ ¬ key - key / 4 * 4 = 2) ∨ (c = 3 ∧ (okI i 6 ∧ okI key 16) ∧ key - key / 4 * 4 = 2 ∧ ∃ r, r < 6 ∧ i = nI r ∧ (¬ (a_cnt α < 250 ∧ a_g α r < 100) ∨ ¬ a_nd α < 250)))))) 12 100 (g_A base) := by
  have hDk : isDk L K n fR (ad 0) (ad 1) (ad 2) (ad 3) (ad 35) (ad 4) := hR.1.2.2.1
  have hD : isDt L K n fR (ad 3) (ad 5) (ad 6) (ad 7) (ad 8) (ad 9) (ad 10) := hR.1.2.2.2.1
  have hcnt : fI (ad 3) 6 = nI (a_cnt α) := hR.2.2.2.1.1
  have hmc : fI (ad 0) 5 = nI (a_nd α) := hR.2.1
  have hnd : a_nd α ≤ 250 := hR.1.1
  have hc250 : a_cnt α ≤ 250 := Nat.le_trans hR.2.2.1 hnd
  have hDk0 := hDk
  obtain ⟨hLx, hKx, h0x, h1x, h2x, h3x, h4x, hLra, hKra, hnra, hLma, hKma, hnma, hLod, hKod, hnod⟩ := hDk0
  have hD0 := hD
  obtain ⟨hLd, hKd, h0d, h1d, h2d, h3d, h4d, h5d, hLdr, hKdr, hndr, hLdn, hKdn, hndn, hLdk, hKdk, hndk, hLdp, hKdp, hndp, hLdv, hKdv, hndv, hLdg, hKdg, hndg⟩ := hD0
  refine met_ofWH (cc := cL_count) (maxL := 7) (ret := (some .int)) (hh := [(0, 12, 15, 13), (0, 12, 19, 15), (0, 12, 23, 17)]) (by decide) rfl ?_
  intro p e s m args below meth c s₁ B hml hv
  obtain ⟨rfl, ⟨hPr, hX⟩, hN⟩ := hv
  have hx := B.exec
  have hb := B.bytes
  have hr := B.returns
  have hts := atoms_spec (ws := wsL_count) B.pre
  have hown : s.vm.findClass RL = some m.cls := findClass_of_methodNamed B.named
  have hlocks := B.notSynchronized
  have hin : meth.name = "count" := (name_of_methodNamed B.named B.method).1
  have hK := hPr.2.2
  have hG := hPr.gw
  have htab := vx_table (x := yL_count) B (hts (.codeWith yL_count cL_count 7 (some .int) [(0, 12, 15, 13), (0, 12, 19, 15), (0, 12, 23, 17)]) (by unfold wsL_count; exact List.mem_cons_self))
  have hl := lv_entry ([.ref (ad 0), .int i, .int key, .long v, .ref oa]) (n := 7) (Nat.le_of_ble_eq_true rfl)
  rw [lg_entry_eq]
  generalize (lg_sl ([.ref (ad 0), .int i, .int key, .long v, .ref oa]) ++ List.replicate (7 - (lg_sl ([.ref (ad 0), .int i, .int key, .long v, .ref oa])).length) Slot.unset).toArray = ls at hl ⊢
  have hl : lv_has ls 7 [(0, .ref (ad 0)), (1, .int i), (2, .int key), (3, .long v), (5, .ref oa)] := hl
  refine g_start hPr (fun H locs hG => ?_)
  refine lv_aload hx hb dL_count_0 (lv_at hl 4 rfl) ?_
  refine lv_iconst (v := 0) hx hb dL_count_2 (by decide) ?_
  refine lv_aload_n hx hb dL_count_3 rfl (lv_at hl 0 rfl) ?_
  refine lv_iload_n hx hb dL_count_4 rfl (lv_at hl 1 rfl) ?_
  refine lv_iload_n hx hb dL_count_5 rfl (lv_at hl 2 rfl) ?_
  refine lv_lload_n hx hb dL_count_6 rfl (lv_at hl 3 rfl) ?_
  refine g_xi (vx_runV (As := [.int i, .int key, .long v]) (rest := [.int 0, .ref oa]) ⟨hx, hb, hml, hown, hts⟩ (c_count l G base hl0 hR (i := i) (key := key) (v := v)) (cwV 3 hts gL_count_X2_count rfl rfl rfl (by decide +kernel) ⟨(Nat.le_of_ble_eq_true rfl), (Nat.le_of_ble_eq_true rfl)⟩) (g_px2 hK hX hG hLx hKx) rfl rfl hl.1 rfl (lv_room (Nat.le_of_ble_eq_true rfl)) dL_count_7 ⟨(Nat.le_of_ble_eq_true rfl), (Nat.le_of_ble_eq_true rfl)⟩) hG (fun E ce q9 H locs hpx hG hce hcv hcl => ?_) (fun y1 u H locs hp hG => ?_)
  · rcases hpx with ⟨rfl, h1⟩ | ⟨rfl, h1⟩ | ⟨rfl, h1⟩
    · refine vx_catch (own := RL) (name := "java/lang/IndexOutOfBoundsException") hown ([] : List ExceptionTableEntry) (⟨0, 12, 15, 13⟩ : ExceptionTableEntry) ([⟨0, 12, 19, 15⟩, ⟨0, 12, 23, 17⟩] : List ExceptionTableEntry) (by rw [htab]; rfl) (fun z hz => nomatch hz) (by decide) (by decide) (hts (.classLink RL 13 "java/lang/IndexOutOfBoundsException") (by decide +kernel)) (va_Nw.use rfl hN.1.1) hce hcv hcl ?_
      refine lv_astore (lv' := [(6, .ref q9), (0, .ref (ad 0)), (1, .int i), (2, .int key), (3, .long v), (5, .ref oa)]) hx hb dL_count_15 hl (by decide) rfl (fun ls hl => ?_)
      refine lv_iconst (v := 1) hx hb dL_count_17 (by decide) ?_
      refine W.widen (k := 12) (n := 100) (by omega) (by omega) ?_
      exact W.iret (v := 1) hx hb hr (fun t9 h9 hW9 => ⟨⟨1, ((L, K, n, rI, rJ, rQ, fI, fR), ad, α), rfl, ⟨1, rfl, stpO_id (StpX.rf hR), Or.inr ⟨rfl, Or.inl ⟨rfl, h1⟩⟩⟩, hG.at h9⟩, hG.2.2.1.F h9⟩) hG.2.2.1.2.2 dL_count_18
    · refine vx_catch (own := RL) (name := "java/lang/UnsupportedOperationException") hown ([⟨0, 12, 15, 13⟩] : List ExceptionTableEntry) (⟨0, 12, 19, 15⟩ : ExceptionTableEntry) ([⟨0, 12, 23, 17⟩] : List ExceptionTableEntry) (by rw [htab]; rfl) (fun z hz => by
        rcases List.mem_cons.mp hz with q | hz
        · subst q; exact Or.inr ⟨by decide, _, (hts (.classLink RL 13 "java/lang/IndexOutOfBoundsException") (by decide +kernel)), hN.2.1⟩
        · exact nomatch hz) (by decide) (by decide) (hts (.classLink RL 15 "java/lang/UnsupportedOperationException") (by decide +kernel)) (va_Nw.use rfl hN.1.2.1) hce hcv hcl ?_
      refine lv_astore (lv' := [(6, .ref q9), (0, .ref (ad 0)), (1, .int i), (2, .int key), (3, .long v), (5, .ref oa)]) hx hb dL_count_19 hl (by decide) rfl (fun ls hl => ?_)
      refine lv_iconst (v := 2) hx hb dL_count_21 (by decide) ?_
      refine W.widen (k := 12) (n := 100) (by omega) (by omega) ?_
      exact W.iret (v := 2) hx hb hr (fun t9 h9 hW9 => ⟨⟨2, ((L, K, n, rI, rJ, rQ, fI, fR), ad, α), rfl, ⟨2, rfl, stpO_id (StpX.rf hR), Or.inr ⟨rfl, Or.inr (Or.inl ⟨rfl, h1⟩)⟩⟩, hG.at h9⟩, hG.2.2.1.F h9⟩) hG.2.2.1.2.2 dL_count_22
    · refine vx_catch (own := RL) (name := "java/lang/IllegalStateException") hown ([⟨0, 12, 15, 13⟩, ⟨0, 12, 19, 15⟩] : List ExceptionTableEntry) (⟨0, 12, 23, 17⟩ : ExceptionTableEntry) ([] : List ExceptionTableEntry) (by rw [htab]; rfl) (fun z hz => by
        rcases List.mem_cons.mp hz with q | hz
        · subst q; exact Or.inr ⟨by decide, _, (hts (.classLink RL 13 "java/lang/IndexOutOfBoundsException") (by decide +kernel)), hN.2.2.1⟩
        · rw [List.mem_singleton.mp hz]; exact Or.inr ⟨by decide, _, (hts (.classLink RL 15 "java/lang/UnsupportedOperationException") (by decide +kernel)), hN.2.2.2.1⟩) (by decide) (by decide) (hts (.classLink RL 17 "java/lang/IllegalStateException") (by decide +kernel)) (va_Nw.use rfl hN.1.2.2.1) hce hcv hcl ?_
      refine lv_astore (lv' := [(6, .ref q9), (0, .ref (ad 0)), (1, .int i), (2, .int key), (3, .long v), (5, .ref oa)]) hx hb dL_count_23 hl (by decide) rfl (fun ls hl => ?_)
      refine lv_iconst (v := 3) hx hb dL_count_25 (by decide) ?_
      refine W.widen (k := 12) (n := 100) (by omega) (by omega) ?_
      exact W.iret (v := 3) hx hb hr (fun t9 h9 hW9 => ⟨⟨3, ((L, K, n, rI, rJ, rQ, fI, fR), ad, α), rfl, ⟨3, rfl, stpO_id (StpX.rf hR), Or.inr ⟨rfl, Or.inr (Or.inr ⟨rfl, h1⟩)⟩⟩, hG.at h9⟩, hG.2.2.1.F h9⟩) hG.2.2.1.2.2 dL_count_26
    -- 
  obtain ⟨⟨⟨L1, K1, n1, i1, j1, q1, f1, R1⟩, ad1⟩, r⟩ := u
  replace hG : gw G base s.heap (L1, K1, n1, i1, j1, q1, f1, R1) H locs := hG
  obtain ⟨⟨hr6, hri⟩, hok, hkd, hx1, hSt⟩ := hp
  replace hx1 : y1 = (nI (a_nd α)) := hx1
  subst hx1
  replace hSt : StpX (L, K, n, rI, rJ, rQ, fI, fR) ad α (L1, K1, n1, i1, j1, q1, f1, R1) ad1 (aCount α r key v) := hSt
  have hko := hSt.2.1 oa hLo
  have hLo1 : oa ∈ L1 := hko.1
  have hKo1 : K1 oa = 5 := hko.2.1.trans hKo
  have hno1 : n1 oa = 1 := hko.2.2.1.trans hno
  refine lv_i2l hx hb dL_count_10 rfl ?_
  refine g_last hx hb hK hG hLo1 hKo1 (0) rfl (by rw [hno1]; decide) (by rw [hno1]; decide) dL_count_11 (fun H locs hG => ?_)
  refine lv_goto (tgt := 27) hx hb dL_count_12 (by decide) ?_
  refine lv_iconst (v := 0) hx hb dL_count_27 (by decide) ?_
  refine W.widen (k := 12) (n := 100) (by omega) (by omega) ?_
  exact W.iret (v := 0) hx hb hr (fun t9 h9 hW9 => ⟨⟨0, ((L1, K1, n1, i1, g_up j1 oa 0 (((nI (a_nd α))).toInt64), q1, f1, R1), ad1, aCount α r key v), rfl, ⟨0, rfl, stpO_of hSt hLo hio, Or.inl ⟨rfl, r, hr6, hri, hok, hkd, g_up_at _ _ _ _, rfl⟩⟩, hG.at h9⟩, hG.2.2.1.F h9⟩) hG.2.2.1.2.2 dL_count_28
set_option maxHeartbeats 4000000 in
set_option maxRecDepth 100000 in
/-- the law's clear -/
theorem w_clear (l : Launch) (G : gG) (base : Nat) {L : List Nat} {K n : Nat → Nat} {rI : Nat → Nat → Int32} {rJ : Nat → Nat → Int64} {rQ : Nat → Nat → Option Nat} {fI : Nat → Nat → Int32} {fR : Nat → Nat → Option Nat} (hl0 : l.stackTraces = false) {ad : Nat → Nat} {α : aT} (hR : RepX (L, K, n, rI, rJ, rQ, fI, fR) ad α) {oa : Nat} (hLo : oa ∈ L) (hKo : K oa = 5) (hno : n oa = 1) (hio : ¬ inX ad (a_nd α) oa) {i key : Int32} : Met l yL_clear wsL_clear ({ frames := 8, cells := 12, slots := 100, locals := 135 }) (va_Pc [.ref (ad 0), .int i, .int key, .ref oa] (g_Py G base (L, K, n, rI, rJ, rQ, fI, fR))) (wQ G base (L, K, n, rI, rJ, rQ, fI, fR) ad α oa (fun c y9 a9 => (c = 0 ∧ ∃ r, r < 6 ∧ i = nI r ∧ (okI i 6 ∧ okI key 16) ∧ y9 = (nI (a_nd α)).toInt64 ∧ a9 = aClear α r key) ∨ (a9 = α ∧ ((c = 1 ∧ ¬ (okI i 6 ∧ okI key 16)) ∨ (c = 2 ∧ (okI i 6 ∧ okI key 16) ∧ ¬ a_nd α < 250))))) 12 100 (g_A base) := by
  have hDk : isDk L K n fR (ad 0) (ad 1) (ad 2) (ad 3) (ad 35) (ad 4) := hR.1.2.2.1
  have hD : isDt L K n fR (ad 3) (ad 5) (ad 6) (ad 7) (ad 8) (ad 9) (ad 10) := hR.1.2.2.2.1
  have hcnt : fI (ad 3) 6 = nI (a_cnt α) := hR.2.2.2.1.1
  have hmc : fI (ad 0) 5 = nI (a_nd α) := hR.2.1
  have hnd : a_nd α ≤ 250 := hR.1.1
  have hc250 : a_cnt α ≤ 250 := Nat.le_trans hR.2.2.1 hnd
  have hDk0 := hDk
  obtain ⟨hLx, hKx, h0x, h1x, h2x, h3x, h4x, hLra, hKra, hnra, hLma, hKma, hnma, hLod, hKod, hnod⟩ := hDk0
  have hD0 := hD
  obtain ⟨hLd, hKd, h0d, h1d, h2d, h3d, h4d, h5d, hLdr, hKdr, hndr, hLdn, hKdn, hndn, hLdk, hKdk, hndk, hLdp, hKdp, hndp, hLdv, hKdv, hndv, hLdg, hKdg, hndg⟩ := hD0
  refine met_ofWH (cc := cL_clear) (maxL := 5) (ret := (some .int)) (hh := [(0, 10, 13, 13), (0, 10, 17, 17)]) (by decide) rfl ?_
  intro p e s m args below meth c s₁ B hml hv
  obtain ⟨rfl, ⟨hPr, hX⟩, hN⟩ := hv
  have hx := B.exec
  have hb := B.bytes
  have hr := B.returns
  have hts := atoms_spec (ws := wsL_clear) B.pre
  have hown : s.vm.findClass RL = some m.cls := findClass_of_methodNamed B.named
  have hlocks := B.notSynchronized
  have hin : meth.name = "clear" := (name_of_methodNamed B.named B.method).1
  have hK := hPr.2.2
  have hG := hPr.gw
  have htab := vx_table (x := yL_clear) B (hts (.codeWith yL_clear cL_clear 5 (some .int) [(0, 10, 13, 13), (0, 10, 17, 17)]) (by unfold wsL_clear; exact List.mem_cons_self))
  have hl := lv_entry ([.ref (ad 0), .int i, .int key, .ref oa]) (n := 5) (Nat.le_of_ble_eq_true rfl)
  rw [lg_entry_eq]
  generalize (lg_sl ([.ref (ad 0), .int i, .int key, .ref oa]) ++ List.replicate (5 - (lg_sl ([.ref (ad 0), .int i, .int key, .ref oa])).length) Slot.unset).toArray = ls at hl ⊢
  have hl : lv_has ls 5 [(0, .ref (ad 0)), (1, .int i), (2, .int key), (3, .ref oa)] := hl
  refine g_start hPr (fun H locs hG => ?_)
  refine lv_aload_n hx hb dL_clear_0 rfl (lv_at hl 3 rfl) ?_
  refine lv_iconst (v := 0) hx hb dL_clear_1 (by decide) ?_
  refine lv_aload_n hx hb dL_clear_2 rfl (lv_at hl 0 rfl) ?_
  refine lv_iload_n hx hb dL_clear_3 rfl (lv_at hl 1 rfl) ?_
  refine lv_iload_n hx hb dL_clear_4 rfl (lv_at hl 2 rfl) ?_
  refine g_xi (vx_runV (As := [.int i, .int key]) (rest := [.int 0, .ref oa]) ⟨hx, hb, hml, hown, hts⟩ (c_clear l G base hl0 hR (i := i) (key := key)) (cwV 2 hts gL_clear_X2_clear rfl rfl rfl (by decide +kernel) ⟨(Nat.le_of_ble_eq_true rfl), (Nat.le_of_ble_eq_true rfl)⟩) (g_px2 hK hX hG hLx hKx) rfl rfl hl.1 rfl (lv_room (Nat.le_of_ble_eq_true rfl)) dL_clear_5 ⟨(Nat.le_of_ble_eq_true rfl), (Nat.le_of_ble_eq_true rfl)⟩) hG (fun E ce q9 H locs hpx hG hce hcv hcl => ?_) (fun y1 u H locs hp hG => ?_)
  · rcases hpx with ⟨rfl, h1⟩ | ⟨rfl, h1⟩
    · refine vx_catch (own := RL) (name := "java/lang/IndexOutOfBoundsException") hown ([] : List ExceptionTableEntry) (⟨0, 10, 13, 13⟩ : ExceptionTableEntry) ([⟨0, 10, 17, 17⟩] : List ExceptionTableEntry) (by rw [htab]; rfl) (fun z hz => nomatch hz) (by decide) (by decide) (hts (.classLink RL 13 "java/lang/IndexOutOfBoundsException") (by decide +kernel)) (va_Nw.use rfl hN.1.1) hce hcv hcl ?_
      refine lv_astore (lv' := [(4, .ref q9), (0, .ref (ad 0)), (1, .int i), (2, .int key), (3, .ref oa)]) hx hb dL_clear_13 hl (by decide) rfl (fun ls hl => ?_)
      refine lv_iconst (v := 1) hx hb dL_clear_15 (by decide) ?_
      refine W.widen (k := 12) (n := 100) (by omega) (by omega) ?_
      exact W.iret (v := 1) hx hb hr (fun t9 h9 hW9 => ⟨⟨1, ((L, K, n, rI, rJ, rQ, fI, fR), ad, α), rfl, ⟨1, rfl, stpO_id (StpX.rf hR), Or.inr ⟨rfl, Or.inl ⟨rfl, h1⟩⟩⟩, hG.at h9⟩, hG.2.2.1.F h9⟩) hG.2.2.1.2.2 dL_clear_16
    · refine vx_catch (own := RL) (name := "java/lang/IllegalStateException") hown ([⟨0, 10, 13, 13⟩] : List ExceptionTableEntry) (⟨0, 10, 17, 17⟩ : ExceptionTableEntry) ([] : List ExceptionTableEntry) (by rw [htab]; rfl) (fun z hz => by
        rcases List.mem_cons.mp hz with q | hz
        · subst q; exact Or.inr ⟨by decide, _, (hts (.classLink RL 13 "java/lang/IndexOutOfBoundsException") (by decide +kernel)), hN.2.2.1⟩
        · exact nomatch hz) (by decide) (by decide) (hts (.classLink RL 17 "java/lang/IllegalStateException") (by decide +kernel)) (va_Nw.use rfl hN.1.2.2.1) hce hcv hcl ?_
      refine lv_astore (lv' := [(4, .ref q9), (0, .ref (ad 0)), (1, .int i), (2, .int key), (3, .ref oa)]) hx hb dL_clear_17 hl (by decide) rfl (fun ls hl => ?_)
      refine lv_iconst (v := 2) hx hb dL_clear_19 (by decide) ?_
      refine W.widen (k := 12) (n := 100) (by omega) (by omega) ?_
      exact W.iret (v := 2) hx hb hr (fun t9 h9 hW9 => ⟨⟨2, ((L, K, n, rI, rJ, rQ, fI, fR), ad, α), rfl, ⟨2, rfl, stpO_id (StpX.rf hR), Or.inr ⟨rfl, Or.inr ⟨rfl, h1⟩⟩⟩, hG.at h9⟩, hG.2.2.1.F h9⟩) hG.2.2.1.2.2 dL_clear_20
    -- 
  obtain ⟨⟨⟨L1, K1, n1, i1, j1, q1, f1, R1⟩, ad1⟩, r⟩ := u
  replace hG : gw G base s.heap (L1, K1, n1, i1, j1, q1, f1, R1) H locs := hG
  obtain ⟨⟨hr6, hri⟩, hok, hx1, hSt⟩ := hp
  replace hx1 : y1 = (nI (a_nd α)) := hx1
  subst hx1
  replace hSt : StpX (L, K, n, rI, rJ, rQ, fI, fR) ad α (L1, K1, n1, i1, j1, q1, f1, R1) ad1 (aClear α r key) := hSt
  have hko := hSt.2.1 oa hLo
  have hLo1 : oa ∈ L1 := hko.1
  have hKo1 : K1 oa = 5 := hko.2.1.trans hKo
  have hno1 : n1 oa = 1 := hko.2.2.1.trans hno
  refine lv_i2l hx hb dL_clear_8 rfl ?_
  refine g_last hx hb hK hG hLo1 hKo1 (0) rfl (by rw [hno1]; decide) (by rw [hno1]; decide) dL_clear_9 (fun H locs hG => ?_)
  refine lv_goto (tgt := 21) hx hb dL_clear_10 (by decide) ?_
  refine lv_iconst (v := 0) hx hb dL_clear_21 (by decide) ?_
  refine W.widen (k := 12) (n := 100) (by omega) (by omega) ?_
  exact W.iret (v := 0) hx hb hr (fun t9 h9 hW9 => ⟨⟨0, ((L1, K1, n1, i1, g_up j1 oa 0 (((nI (a_nd α))).toInt64), q1, f1, R1), ad1, aClear α r key), rfl, ⟨0, rfl, stpO_of hSt hLo hio, Or.inl ⟨rfl, r, hr6, hri, hok, g_up_at _ _ _ _, rfl⟩⟩, hG.at h9⟩, hG.2.2.1.F h9⟩) hG.2.2.1.2.2 dL_clear_22
set_option maxHeartbeats 4000000 in
set_option maxRecDepth 100000 in
/-- the law's twice -/
theorem w_twice (l : Launch) (G : gG) (base : Nat) {L : List Nat} {K n : Nat → Nat} {rI : Nat → Nat → Int32} {rJ : Nat → Nat → Int64} {rQ : Nat → Nat → Option Nat} {fI : Nat → Nat → Int32} {fR : Nat → Nat → Option Nat} (hl0 : l.stackTraces = false) {ad : Nat → Nat} {α : aT} (hR : RepX (L, K, n, rI, rJ, rQ, fI, fR) ad α) {oa : Nat} (hLo : oa ∈ L) (hKo : K oa = 5) (hno : n oa = 1) (hio : ¬ inX ad (a_nd α) oa) {i el : Int32} {on : Bool} : Met l yL_twice wsL_twice ({ frames := 8, cells := 12, slots := 100, locals := 136 }) (va_Pc [.ref (ad 0), .int i, .int el, .int (bi on), .ref oa] (g_Py G base (L, K, n, rI, rJ, rQ, fI, fR))) (wQ G base (L, K, n, rI, rJ, rQ, fI, fR) ad α oa (fun c y9 a9 => (c = 0 ∧ ∃ r ee, r < 6 ∧ i = nI r ∧ ee < 32 ∧ el = nI ee ∧ y9 = (nI (a_nd α)).toInt64 ∧ a9 = aTwice α r ee on) ∨ (a9 = α ∧ ((c = 1 ∧ ¬ (okI i 6 ∧ okI el 32)) ∨ (c = 2 ∧ (okI i 6 ∧ okI el 32) ∧ ¬ a_nd α < 250))))) 12 100 (g_A base) := by
  have hDk : isDk L K n fR (ad 0) (ad 1) (ad 2) (ad 3) (ad 35) (ad 4) := hR.1.2.2.1
  have hD : isDt L K n fR (ad 3) (ad 5) (ad 6) (ad 7) (ad 8) (ad 9) (ad 10) := hR.1.2.2.2.1
  have hcnt : fI (ad 3) 6 = nI (a_cnt α) := hR.2.2.2.1.1
  have hmc : fI (ad 0) 5 = nI (a_nd α) := hR.2.1
  have hnd : a_nd α ≤ 250 := hR.1.1
  have hc250 : a_cnt α ≤ 250 := Nat.le_trans hR.2.2.1 hnd
  have hDk0 := hDk
  obtain ⟨hLx, hKx, h0x, h1x, h2x, h3x, h4x, hLra, hKra, hnra, hLma, hKma, hnma, hLod, hKod, hnod⟩ := hDk0
  have hD0 := hD
  obtain ⟨hLd, hKd, h0d, h1d, h2d, h3d, h4d, h5d, hLdr, hKdr, hndr, hLdn, hKdn, hndn, hLdk, hKdk, hndk, hLdp, hKdp, hndp, hLdv, hKdv, hndv, hLdg, hKdg, hndg⟩ := hD0
  refine met_ofWH (cc := cL_twice) (maxL := 6) (ret := (some .int)) (hh := [(0, 12, 15, 13), (0, 12, 19, 17)]) (by decide) rfl ?_
  intro p e s m args below meth c s₁ B hml hv
  obtain ⟨rfl, ⟨hPr, hX⟩, hN⟩ := hv
  have hx := B.exec
  have hb := B.bytes
  have hr := B.returns
  have hts := atoms_spec (ws := wsL_twice) B.pre
  have hown : s.vm.findClass RL = some m.cls := findClass_of_methodNamed B.named
  have hlocks := B.notSynchronized
  have hin : meth.name = "twice" := (name_of_methodNamed B.named B.method).1
  have hK := hPr.2.2
  have hG := hPr.gw
  have htab := vx_table (x := yL_twice) B (hts (.codeWith yL_twice cL_twice 6 (some .int) [(0, 12, 15, 13), (0, 12, 19, 17)]) (by unfold wsL_twice; exact List.mem_cons_self))
  have hl := lv_entry ([.ref (ad 0), .int i, .int el, .int (bi on), .ref oa]) (n := 6) (Nat.le_of_ble_eq_true rfl)
  rw [lg_entry_eq]
  generalize (lg_sl ([.ref (ad 0), .int i, .int el, .int (bi on), .ref oa]) ++ List.replicate (6 - (lg_sl ([.ref (ad 0), .int i, .int el, .int (bi on), .ref oa])).length) Slot.unset).toArray = ls at hl ⊢
  have hl : lv_has ls 6 [(0, .ref (ad 0)), (1, .int i), (2, .int el), (3, .int (bi on)), (4, .ref oa)] := hl
  refine g_start hPr (fun H locs hG => ?_)
  refine lv_aload hx hb dL_twice_0 (lv_at hl 4 rfl) ?_
  refine lv_iconst (v := 0) hx hb dL_twice_2 (by decide) ?_
  refine lv_aload_n hx hb dL_twice_3 rfl (lv_at hl 0 rfl) ?_
  refine lv_iload_n hx hb dL_twice_4 rfl (lv_at hl 1 rfl) ?_
  refine lv_iload_n hx hb dL_twice_5 rfl (lv_at hl 2 rfl) ?_
  refine lv_iload_n hx hb dL_twice_6 rfl (lv_at hl 3 rfl) ?_
  refine g_xi (vx_runV (As := [.int i, .int el, .int (bi on)]) (rest := [.int 0, .ref oa]) ⟨hx, hb, hml, hown, hts⟩ (c_twice l G base hl0 hR (i := i) (el := el) (on := on)) (cwV 3 hts gL_twice_X2_twice rfl rfl rfl (by decide +kernel) ⟨(Nat.le_of_ble_eq_true rfl), (Nat.le_of_ble_eq_true rfl)⟩) (g_px2 hK hX hG hLx hKx) rfl rfl hl.1 rfl (lv_room (Nat.le_of_ble_eq_true rfl)) dL_twice_7 ⟨(Nat.le_of_ble_eq_true rfl), (Nat.le_of_ble_eq_true rfl)⟩) hG (fun E ce q9 H locs hpx hG hce hcv hcl => ?_) (fun y1 u H locs hp hG => ?_)
  · rcases hpx with ⟨rfl, h1⟩ | ⟨rfl, h1⟩
    · refine vx_catch (own := RL) (name := "java/lang/IndexOutOfBoundsException") hown ([] : List ExceptionTableEntry) (⟨0, 12, 15, 13⟩ : ExceptionTableEntry) ([⟨0, 12, 19, 17⟩] : List ExceptionTableEntry) (by rw [htab]; rfl) (fun z hz => nomatch hz) (by decide) (by decide) (hts (.classLink RL 13 "java/lang/IndexOutOfBoundsException") (by decide +kernel)) (va_Nw.use rfl hN.1.1) hce hcv hcl ?_
      refine lv_astore (lv' := [(5, .ref q9), (0, .ref (ad 0)), (1, .int i), (2, .int el), (3, .int (bi on)), (4, .ref oa)]) hx hb dL_twice_15 hl (by decide) rfl (fun ls hl => ?_)
      refine lv_iconst (v := 1) hx hb dL_twice_17 (by decide) ?_
      refine W.widen (k := 12) (n := 100) (by omega) (by omega) ?_
      exact W.iret (v := 1) hx hb hr (fun t9 h9 hW9 => ⟨⟨1, ((L, K, n, rI, rJ, rQ, fI, fR), ad, α), rfl, ⟨1, rfl, stpO_id (StpX.rf hR), Or.inr ⟨rfl, Or.inl ⟨rfl, h1⟩⟩⟩, hG.at h9⟩, hG.2.2.1.F h9⟩) hG.2.2.1.2.2 dL_twice_18
    · refine vx_catch (own := RL) (name := "java/lang/IllegalStateException") hown ([⟨0, 12, 15, 13⟩] : List ExceptionTableEntry) (⟨0, 12, 19, 17⟩ : ExceptionTableEntry) ([] : List ExceptionTableEntry) (by rw [htab]; rfl) (fun z hz => by
        rcases List.mem_cons.mp hz with q | hz
        · subst q; exact Or.inr ⟨by decide, _, (hts (.classLink RL 13 "java/lang/IndexOutOfBoundsException") (by decide +kernel)), hN.2.2.1⟩
        · exact nomatch hz) (by decide) (by decide) (hts (.classLink RL 17 "java/lang/IllegalStateException") (by decide +kernel)) (va_Nw.use rfl hN.1.2.2.1) hce hcv hcl ?_
      refine lv_astore (lv' := [(5, .ref q9), (0, .ref (ad 0)), (1, .int i), (2, .int el), (3, .int (bi on)), (4, .ref oa)]) hx hb dL_twice_19 hl (by decide) rfl (fun ls hl => ?_)
      refine lv_iconst (v := 2) hx hb dL_twice_21 (by decide) ?_
      refine W.widen (k := 12) (n := 100) (by omega) (by omega) ?_
      exact W.iret (v := 2) hx hb hr (fun t9 h9 hW9 => ⟨⟨2, ((L, K, n, rI, rJ, rQ, fI, fR), ad, α), rfl, ⟨2, rfl, stpO_id (StpX.rf hR), Or.inr ⟨rfl, Or.inr ⟨rfl, h1⟩⟩⟩, hG.at h9⟩, hG.2.2.1.F h9⟩) hG.2.2.1.2.2 dL_twice_22
    -- 
  obtain ⟨⟨⟨L1, K1, n1, i1, j1, q1, f1, R1⟩, ad1⟩, r, ee⟩ := u
  replace hG : gw G base s.heap (L1, K1, n1, i1, j1, q1, f1, R1) H locs := hG
  obtain ⟨⟨hr6, hri⟩, ⟨he32, hei⟩, hx1, hSt⟩ := hp
  replace hx1 : y1 = (nI (a_nd α)) := hx1
  subst hx1
  replace hSt : StpX (L, K, n, rI, rJ, rQ, fI, fR) ad α (L1, K1, n1, i1, j1, q1, f1, R1) ad1 (aTwice α r ee on) := hSt
  have hko := hSt.2.1 oa hLo
  have hLo1 : oa ∈ L1 := hko.1
  have hKo1 : K1 oa = 5 := hko.2.1.trans hKo
  have hno1 : n1 oa = 1 := hko.2.2.1.trans hno
  refine lv_i2l hx hb dL_twice_10 rfl ?_
  refine g_last hx hb hK hG hLo1 hKo1 (0) rfl (by rw [hno1]; decide) (by rw [hno1]; decide) dL_twice_11 (fun H locs hG => ?_)
  refine lv_goto (tgt := 23) hx hb dL_twice_12 (by decide) ?_
  refine lv_iconst (v := 0) hx hb dL_twice_23 (by decide) ?_
  refine W.widen (k := 12) (n := 100) (by omega) (by omega) ?_
  exact W.iret (v := 0) hx hb hr (fun t9 h9 hW9 => ⟨⟨0, ((L1, K1, n1, i1, g_up j1 oa 0 (((nI (a_nd α))).toInt64), q1, f1, R1), ad1, aTwice α r ee on), rfl, ⟨0, rfl, stpO_of hSt hLo hio, Or.inl ⟨rfl, r, ee, hr6, hri, he32, hei, g_up_at _ _ _ _, rfl⟩⟩, hG.at h9⟩, hG.2.2.1.F h9⟩) hG.2.2.1.2.2 dL_twice_24
set_option maxHeartbeats 4000000 in
set_option maxRecDepth 100000 in
/-- the law's timed -/
theorem w_timed (l : Launch) (G : gG) (base : Nat) {L : List Nat} {K n : Nat → Nat} {rI : Nat → Nat → Int32} {rJ : Nat → Nat → Int64} {rQ : Nat → Nat → Option Nat} {fI : Nat → Nat → Int32} {fR : Nat → Nat → Option Nat} (hl0 : l.stackTraces = false) {ad : Nat → Nat} {α : aT} (hR : RepX (L, K, n, rI, rJ, rQ, fI, fR) ad α) {oa : Nat} (hLo : oa ∈ L) (hKo : K oa = 5) (hno : n oa = 1) (hio : ¬ inX ad (a_nd α) oa) {i el tm : Int32} {on : Bool} : Met l yL_timed wsL_timed ({ frames := 8, cells := 12, slots := 100, locals := 137 }) (va_Pc [.ref (ad 0), .int i, .int el, .int tm, .int (bi on), .ref oa] (g_Py G base (L, K, n, rI, rJ, rQ, fI, fR))) (wQ G base (L, K, n, rI, rJ, rQ, fI, fR) ad α oa (fun c y9 a9 => (c = 0 ∧ ∃ r ee, r < 6 ∧ i = nI r ∧ ee < 32 ∧ el = nI ee ∧ (¬ tm < 0 ∧ tm ≤ 1000000) ∧ y9 = (nI (a_nd α)).toInt64 ∧ a9 = aTimed α r ee tm on) ∨ (a9 = α ∧ ((c = 1 ∧ ¬ (okI i 6 ∧ okI el 32)) ∨ (c = 2 ∧ (okI i 6 ∧ okI el 32) ∧ ¬ (¬ tm < 0 ∧ tm ≤ 1000000)) ∨ (c = 3 ∧ (okI i 6 ∧ okI el 32) ∧ (¬ tm < 0 ∧ tm ≤ 1000000) ∧ ¬ a_nd α < 250))))) 12 100 (g_A base) := by
  have hDk : isDk L K n fR (ad 0) (ad 1) (ad 2) (ad 3) (ad 35) (ad 4) := hR.1.2.2.1
  have hD : isDt L K n fR (ad 3) (ad 5) (ad 6) (ad 7) (ad 8) (ad 9) (ad 10) := hR.1.2.2.2.1
  have hcnt : fI (ad 3) 6 = nI (a_cnt α) := hR.2.2.2.1.1
  have hmc : fI (ad 0) 5 = nI (a_nd α) := hR.2.1
  have hnd : a_nd α ≤ 250 := hR.1.1
  have hc250 : a_cnt α ≤ 250 := Nat.le_trans hR.2.2.1 hnd
  have hDk0 := hDk
  obtain ⟨hLx, hKx, h0x, h1x, h2x, h3x, h4x, hLra, hKra, hnra, hLma, hKma, hnma, hLod, hKod, hnod⟩ := hDk0
  have hD0 := hD
  obtain ⟨hLd, hKd, h0d, h1d, h2d, h3d, h4d, h5d, hLdr, hKdr, hndr, hLdn, hKdn, hndn, hLdk, hKdk, hndk, hLdp, hKdp, hndp, hLdv, hKdv, hndv, hLdg, hKdg, hndg⟩ := hD0
  refine met_ofWH (cc := cL_timed) (maxL := 7) (ret := (some .int)) (hh := [(0, 14, 17, 13), (0, 14, 21, 40), (0, 14, 25, 17)]) (by decide) rfl ?_
  intro p e s m args below meth c s₁ B hml hv
  obtain ⟨rfl, ⟨hPr, hX⟩, hN⟩ := hv
  have hx := B.exec
  have hb := B.bytes
  have hr := B.returns
  have hts := atoms_spec (ws := wsL_timed) B.pre
  have hown : s.vm.findClass RL = some m.cls := findClass_of_methodNamed B.named
  have hlocks := B.notSynchronized
  have hin : meth.name = "timed" := (name_of_methodNamed B.named B.method).1
  have hK := hPr.2.2
  have hG := hPr.gw
  have htab := vx_table (x := yL_timed) B (hts (.codeWith yL_timed cL_timed 7 (some .int) [(0, 14, 17, 13), (0, 14, 21, 40), (0, 14, 25, 17)]) (by unfold wsL_timed; exact List.mem_cons_self))
  have hl := lv_entry ([.ref (ad 0), .int i, .int el, .int tm, .int (bi on), .ref oa]) (n := 7) (Nat.le_of_ble_eq_true rfl)
  rw [lg_entry_eq]
  generalize (lg_sl ([.ref (ad 0), .int i, .int el, .int tm, .int (bi on), .ref oa]) ++ List.replicate (7 - (lg_sl ([.ref (ad 0), .int i, .int el, .int tm, .int (bi on), .ref oa])).length) Slot.unset).toArray = ls at hl ⊢
  have hl : lv_has ls 7 [(0, .ref (ad 0)), (1, .int i), (2, .int el), (3, .int tm), (4, .int (bi on)), (5, .ref oa)] := hl
  refine g_start hPr (fun H locs hG => ?_)
  refine lv_aload hx hb dL_timed_0 (lv_at hl 5 rfl) ?_
  refine lv_iconst (v := 0) hx hb dL_timed_2 (by decide) ?_
  refine lv_aload_n hx hb dL_timed_3 rfl (lv_at hl 0 rfl) ?_
  refine lv_iload_n hx hb dL_timed_4 rfl (lv_at hl 1 rfl) ?_
  refine lv_iload_n hx hb dL_timed_5 rfl (lv_at hl 2 rfl) ?_
  refine lv_iload_n hx hb dL_timed_6 rfl (lv_at hl 3 rfl) ?_
  refine lv_iload hx hb dL_timed_7 (lv_at hl 4 rfl) ?_
  refine g_xi (vx_runV (As := [.int i, .int el, .int tm, .int (bi on)]) (rest := [.int 0, .ref oa]) ⟨hx, hb, hml, hown, hts⟩ (c_timed l G base hl0 hR (i := i) (el := el) (tm := tm) (on := on)) (cwV 4 hts gL_timed_X2_timed rfl rfl rfl (by decide +kernel) ⟨(Nat.le_of_ble_eq_true rfl), (Nat.le_of_ble_eq_true rfl)⟩) (g_px2 hK hX hG hLx hKx) rfl rfl hl.1 rfl (lv_room (Nat.le_of_ble_eq_true rfl)) dL_timed_9 ⟨(Nat.le_of_ble_eq_true rfl), (Nat.le_of_ble_eq_true rfl)⟩) hG (fun E ce q9 H locs hpx hG hce hcv hcl => ?_) (fun y1 u H locs hp hG => ?_)
  · rcases hpx with ⟨rfl, h1⟩ | ⟨rfl, h1⟩ | ⟨rfl, h1⟩
    · refine vx_catch (own := RL) (name := "java/lang/IndexOutOfBoundsException") hown ([] : List ExceptionTableEntry) (⟨0, 14, 17, 13⟩ : ExceptionTableEntry) ([⟨0, 14, 21, 40⟩, ⟨0, 14, 25, 17⟩] : List ExceptionTableEntry) (by rw [htab]; rfl) (fun z hz => nomatch hz) (by decide) (by decide) (hts (.classLink RL 13 "java/lang/IndexOutOfBoundsException") (by decide +kernel)) (va_Nw.use rfl hN.1.1) hce hcv hcl ?_
      refine lv_astore (lv' := [(6, .ref q9), (0, .ref (ad 0)), (1, .int i), (2, .int el), (3, .int tm), (4, .int (bi on)), (5, .ref oa)]) hx hb dL_timed_17 hl (by decide) rfl (fun ls hl => ?_)
      refine lv_iconst (v := 1) hx hb dL_timed_19 (by decide) ?_
      refine W.widen (k := 12) (n := 100) (by omega) (by omega) ?_
      exact W.iret (v := 1) hx hb hr (fun t9 h9 hW9 => ⟨⟨1, ((L, K, n, rI, rJ, rQ, fI, fR), ad, α), rfl, ⟨1, rfl, stpO_id (StpX.rf hR), Or.inr ⟨rfl, Or.inl ⟨rfl, h1⟩⟩⟩, hG.at h9⟩, hG.2.2.1.F h9⟩) hG.2.2.1.2.2 dL_timed_20
    · refine vx_catch (own := RL) (name := "java/lang/IllegalArgumentException") hown ([⟨0, 14, 17, 13⟩] : List ExceptionTableEntry) (⟨0, 14, 21, 40⟩ : ExceptionTableEntry) ([⟨0, 14, 25, 17⟩] : List ExceptionTableEntry) (by rw [htab]; rfl) (fun z hz => by
        rcases List.mem_cons.mp hz with q | hz
        · subst q; exact Or.inr ⟨by decide, _, (hts (.classLink RL 13 "java/lang/IndexOutOfBoundsException") (by decide +kernel)), hN.2.2.2.2.1⟩
        · exact nomatch hz) (by decide) (by decide) (hts (.classLink RL 40 "java/lang/IllegalArgumentException") (by decide +kernel)) (va_Nw.use rfl hN.1.2.2.2) hce hcv hcl ?_
      refine lv_astore (lv' := [(6, .ref q9), (0, .ref (ad 0)), (1, .int i), (2, .int el), (3, .int tm), (4, .int (bi on)), (5, .ref oa)]) hx hb dL_timed_21 hl (by decide) rfl (fun ls hl => ?_)
      refine lv_iconst (v := 2) hx hb dL_timed_23 (by decide) ?_
      refine W.widen (k := 12) (n := 100) (by omega) (by omega) ?_
      exact W.iret (v := 2) hx hb hr (fun t9 h9 hW9 => ⟨⟨2, ((L, K, n, rI, rJ, rQ, fI, fR), ad, α), rfl, ⟨2, rfl, stpO_id (StpX.rf hR), Or.inr ⟨rfl, Or.inr (Or.inl ⟨rfl, h1⟩)⟩⟩, hG.at h9⟩, hG.2.2.1.F h9⟩) hG.2.2.1.2.2 dL_timed_24
    · refine vx_catch (own := RL) (name := "java/lang/IllegalStateException") hown ([⟨0, 14, 17, 13⟩, ⟨0, 14, 21, 40⟩] : List ExceptionTableEntry) (⟨0, 14, 25, 17⟩ : ExceptionTableEntry) ([] : List ExceptionTableEntry) (by rw [htab]; rfl) (fun z hz => by
        rcases List.mem_cons.mp hz with q | hz
        · subst q; exact Or.inr ⟨by decide, _, (hts (.classLink RL 13 "java/lang/IndexOutOfBoundsException") (by decide +kernel)), hN.2.2.1⟩
        · rw [List.mem_singleton.mp hz]; exact Or.inr ⟨by decide, _, (hts (.classLink RL 40 "java/lang/IllegalArgumentException") (by decide +kernel)), hN.2.2.2.2.2⟩) (by decide) (by decide) (hts (.classLink RL 17 "java/lang/IllegalStateException") (by decide +kernel)) (va_Nw.use rfl hN.1.2.2.1) hce hcv hcl ?_
      refine lv_astore (lv' := [(6, .ref q9), (0, .ref (ad 0)), (1, .int i), (2, .int el), (3, .int tm), (4, .int (bi on)), (5, .ref oa)]) hx hb dL_timed_25 hl (by decide) rfl (fun ls hl => ?_)
      refine lv_iconst (v := 3) hx hb dL_timed_27 (by decide) ?_
      refine W.widen (k := 12) (n := 100) (by omega) (by omega) ?_
      exact W.iret (v := 3) hx hb hr (fun t9 h9 hW9 => ⟨⟨3, ((L, K, n, rI, rJ, rQ, fI, fR), ad, α), rfl, ⟨3, rfl, stpO_id (StpX.rf hR), Or.inr ⟨rfl, Or.inr (Or.inr ⟨rfl, h1⟩)⟩⟩, hG.at h9⟩, hG.2.2.1.F h9⟩) hG.2.2.1.2.2 dL_timed_28
    -- 
  obtain ⟨⟨⟨L1, K1, n1, i1, j1, q1, f1, R1⟩, ad1⟩, r, ee⟩ := u
  replace hG : gw G base s.heap (L1, K1, n1, i1, j1, q1, f1, R1) H locs := hG
  obtain ⟨⟨hr6, hri⟩, ⟨he32, hei⟩, htm, hx1, hSt⟩ := hp
  replace hx1 : y1 = (nI (a_nd α)) := hx1
  subst hx1
  replace hSt : StpX (L, K, n, rI, rJ, rQ, fI, fR) ad α (L1, K1, n1, i1, j1, q1, f1, R1) ad1 (aTimed α r ee tm on) := hSt
  have hko := hSt.2.1 oa hLo
  have hLo1 : oa ∈ L1 := hko.1
  have hKo1 : K1 oa = 5 := hko.2.1.trans hKo
  have hno1 : n1 oa = 1 := hko.2.2.1.trans hno
  refine lv_i2l hx hb dL_timed_12 rfl ?_
  refine g_last hx hb hK hG hLo1 hKo1 (0) rfl (by rw [hno1]; decide) (by rw [hno1]; decide) dL_timed_13 (fun H locs hG => ?_)
  refine lv_goto (tgt := 29) hx hb dL_timed_14 (by decide) ?_
  refine lv_iconst (v := 0) hx hb dL_timed_29 (by decide) ?_
  refine W.widen (k := 12) (n := 100) (by omega) (by omega) ?_
  exact W.iret (v := 0) hx hb hr (fun t9 h9 hW9 => ⟨⟨0, ((L1, K1, n1, i1, g_up j1 oa 0 (((nI (a_nd α))).toInt64), q1, f1, R1), ad1, aTimed α r ee tm on), rfl, ⟨0, rfl, stpO_of hSt hLo hio, Or.inl ⟨rfl, r, ee, hr6, hri, he32, hei, htm, g_up_at _ _ _ _, rfl⟩⟩, hG.at h9⟩, hG.2.2.1.F h9⟩) hG.2.2.1.2.2 dL_timed_30
set_option maxHeartbeats 4000000 in
set_option maxRecDepth 100000 in
/-- the law's join -/
theorem w_join (l : Launch) (G : gG) (base : Nat) {L : List Nat} {K n : Nat → Nat} {rI : Nat → Nat → Int32} {rJ : Nat → Nat → Int64} {rQ : Nat → Nat → Option Nat} {fI : Nat → Nat → Int32} {fR : Nat → Nat → Option Nat} (hl0 : l.stackTraces = false) {ad : Nat → Nat} {α : aT} (hR : RepX (L, K, n, rI, rJ, rQ, fI, fR) ad α) {oa : Nat} (hLo : oa ∈ L) (hKo : K oa = 5) (hno : n oa = 1) (hio : ¬ inX ad (a_nd α) oa) {i j : Int32} : Met l yL_join wsL_join ({ frames := 8, cells := 12, slots := 100, locals := 134 }) (va_Pc [.ref (ad 0), .int i, .int j, .ref oa] (g_Py G base (L, K, n, rI, rJ, rQ, fI, fR))) (wQ G base (L, K, n, rI, rJ, rQ, fI, fR) ad α oa (fun c y9 a9 => (c = 0 ∧ ∃ r d cg, r < 6 ∧ i = nI r ∧ d < (a_nd α) ∧ j = nI d ∧ y9 = (bi cg).toInt64 ∧ (cg = false ↔ sEq (aJoin α r (7 + d)) α r r) ∧ a9 = aJoin α r (7 + d)) ∨ (a9 = α ∧ ((c = 1 ∧ ¬ (okI i 6 ∧ okI j (a_nd α))))))) 12 100 (g_A base) := by
  have hDk : isDk L K n fR (ad 0) (ad 1) (ad 2) (ad 3) (ad 35) (ad 4) := hR.1.2.2.1
  have hD : isDt L K n fR (ad 3) (ad 5) (ad 6) (ad 7) (ad 8) (ad 9) (ad 10) := hR.1.2.2.2.1
  have hcnt : fI (ad 3) 6 = nI (a_cnt α) := hR.2.2.2.1.1
  have hmc : fI (ad 0) 5 = nI (a_nd α) := hR.2.1
  have hnd : a_nd α ≤ 250 := hR.1.1
  have hc250 : a_cnt α ≤ 250 := Nat.le_trans hR.2.2.1 hnd
  have hDk0 := hDk
  obtain ⟨hLx, hKx, h0x, h1x, h2x, h3x, h4x, hLra, hKra, hnra, hLma, hKma, hnma, hLod, hKod, hnod⟩ := hDk0
  have hD0 := hD
  obtain ⟨hLd, hKd, h0d, h1d, h2d, h3d, h4d, h5d, hLdr, hKdr, hndr, hLdn, hKdn, hndn, hLdk, hKdk, hndk, hLdp, hKdp, hndp, hLdv, hKdv, hndv, hLdg, hKdg, hndg⟩ := hD0
  refine met_ofWH (cc := cL_join) (maxL := 5) (ret := (some .int)) (hh := [(0, 10, 13, 13)]) (by decide) rfl ?_
  intro p e s m args below meth c s₁ B hml hv
  obtain ⟨rfl, ⟨hPr, hX⟩, hN⟩ := hv
  have hx := B.exec
  have hb := B.bytes
  have hr := B.returns
  have hts := atoms_spec (ws := wsL_join) B.pre
  have hown : s.vm.findClass RL = some m.cls := findClass_of_methodNamed B.named
  have hlocks := B.notSynchronized
  have hin : meth.name = "join" := (name_of_methodNamed B.named B.method).1
  have hK := hPr.2.2
  have hG := hPr.gw
  have htab := vx_table (x := yL_join) B (hts (.codeWith yL_join cL_join 5 (some .int) [(0, 10, 13, 13)]) (by unfold wsL_join; exact List.mem_cons_self))
  have hl := lv_entry ([.ref (ad 0), .int i, .int j, .ref oa]) (n := 5) (Nat.le_of_ble_eq_true rfl)
  rw [lg_entry_eq]
  generalize (lg_sl ([.ref (ad 0), .int i, .int j, .ref oa]) ++ List.replicate (5 - (lg_sl ([.ref (ad 0), .int i, .int j, .ref oa])).length) Slot.unset).toArray = ls at hl ⊢
  have hl : lv_has ls 5 [(0, .ref (ad 0)), (1, .int i), (2, .int j), (3, .ref oa)] := hl
  refine g_start hPr (fun H locs hG => ?_)
  refine lv_aload_n hx hb dL_join_0 rfl (lv_at hl 3 rfl) ?_
  refine lv_iconst (v := 0) hx hb dL_join_1 (by decide) ?_
  refine lv_aload_n hx hb dL_join_2 rfl (lv_at hl 0 rfl) ?_
  refine lv_iload_n hx hb dL_join_3 rfl (lv_at hl 1 rfl) ?_
  refine lv_iload_n hx hb dL_join_4 rfl (lv_at hl 2 rfl) ?_
  refine g_xi (vx_runV (As := [.int i, .int j]) (rest := [.int 0, .ref oa]) ⟨hx, hb, hml, hown, hts⟩ (c_join l G base hl0 hR (i := i) (j := j)) (cwV 2 hts gL_join_X2_join rfl rfl rfl (by decide +kernel) ⟨(Nat.le_of_ble_eq_true rfl), (Nat.le_of_ble_eq_true rfl)⟩) (g_px2 hK hX hG hLx hKx) rfl rfl hl.1 rfl (lv_room (Nat.le_of_ble_eq_true rfl)) dL_join_5 ⟨(Nat.le_of_ble_eq_true rfl), (Nat.le_of_ble_eq_true rfl)⟩) hG (fun E ce q9 H locs hpx hG hce hcv hcl => ?_) (fun y1 u H locs hp hG => ?_)
  · obtain ⟨rfl, h1⟩ := hpx
    refine vx_catch (own := RL) (name := "java/lang/IndexOutOfBoundsException") hown ([] : List ExceptionTableEntry) (⟨0, 10, 13, 13⟩ : ExceptionTableEntry) ([] : List ExceptionTableEntry) (by rw [htab]; rfl) (fun z hz => nomatch hz) (by decide) (by decide) (hts (.classLink RL 13 "java/lang/IndexOutOfBoundsException") (by decide +kernel)) (va_Nw.use rfl hN.1.1) hce hcv hcl ?_
    refine lv_astore (lv' := [(4, .ref q9), (0, .ref (ad 0)), (1, .int i), (2, .int j), (3, .ref oa)]) hx hb dL_join_13 hl (by decide) rfl (fun ls hl => ?_)
    refine lv_iconst (v := 1) hx hb dL_join_15 (by decide) ?_
    refine W.widen (k := 12) (n := 100) (by omega) (by omega) ?_
    exact W.iret (v := 1) hx hb hr (fun t9 h9 hW9 => ⟨⟨1, ((L, K, n, rI, rJ, rQ, fI, fR), ad, α), rfl, ⟨1, rfl, stpO_id (StpX.rf hR), Or.inr ⟨rfl, ⟨rfl, h1⟩⟩⟩, hG.at h9⟩, hG.2.2.1.F h9⟩) hG.2.2.1.2.2 dL_join_16
    -- 
  obtain ⟨⟨i1, j1, f1⟩, r, d, cg⟩ := u
  replace hG : gw G base s.heap (L, K, n, i1, j1, rQ, f1, fR) H locs := hG
  obtain ⟨⟨hr6, hri⟩, ⟨hd6, hdi⟩, hx1, hcg, hSt⟩ := hp
  replace hx1 : y1 = bi cg := hx1
  subst hx1
  replace hSt : StpX (L, K, n, rI, rJ, rQ, fI, fR) ad α (L, K, n, i1, j1, rQ, f1, fR) ad (aJoin α r (7 + d)) := hSt
  have hko := hSt.2.1 oa hLo
  have hLo1 : oa ∈ L := hko.1
  have hKo1 : K oa = 5 := hko.2.1.trans hKo
  have hno1 : n oa = 1 := hko.2.2.1.trans hno
  refine lv_i2l hx hb dL_join_8 rfl ?_
  refine g_last hx hb hK hG hLo1 hKo1 (0) rfl (by rw [hno1]; decide) (by rw [hno1]; decide) dL_join_9 (fun H locs hG => ?_)
  refine lv_goto (tgt := 17) hx hb dL_join_10 (by decide) ?_
  refine lv_iconst (v := 0) hx hb dL_join_17 (by decide) ?_
  refine W.widen (k := 12) (n := 100) (by omega) (by omega) ?_
  exact W.iret (v := 0) hx hb hr (fun t9 h9 hW9 => ⟨⟨0, ((L, K, n, i1, g_up j1 oa 0 (((bi cg)).toInt64), rQ, f1, fR), ad, aJoin α r (7 + d)), rfl, ⟨0, rfl, stpO_of hSt hLo hio, Or.inl ⟨rfl, r, d, cg, hr6, hri, hd6, hdi, g_up_at _ _ _ _, hcg, rfl⟩⟩, hG.at h9⟩, hG.2.2.1.F h9⟩) hG.2.2.1.2.2 dL_join_18
set_option maxHeartbeats 4000000 in
set_option maxRecDepth 100000 in
/-- the law's merge -/
theorem w_merge (l : Launch) (G : gG) (base : Nat) {L : List Nat} {K n : Nat → Nat} {rI : Nat → Nat → Int32} {rJ : Nat → Nat → Int64} {rQ : Nat → Nat → Option Nat} {fI : Nat → Nat → Int32} {fR : Nat → Nat → Option Nat} (hl0 : l.stackTraces = false) {ad : Nat → Nat} {α : aT} (hR : RepX (L, K, n, rI, rJ, rQ, fI, fR) ad α) {oa : Nat} (hLo : oa ∈ L) (hKo : K oa = 5) (hno : n oa = 1) (hio : ¬ inX ad (a_nd α) oa) {i j : Int32} : Met l yL_merge wsL_merge ({ frames := 8, cells := 12, slots := 100, locals := 134 }) (va_Pc [.ref (ad 0), .int i, .int j, .ref oa] (g_Py G base (L, K, n, rI, rJ, rQ, fI, fR))) (wQ G base (L, K, n, rI, rJ, rQ, fI, fR) ad α oa (fun c y9 a9 => (c = 0 ∧ ∃ r d cg, r < 6 ∧ i = nI r ∧ d < 6 ∧ j = nI d ∧ y9 = (bi cg).toInt64 ∧ (cg = false ↔ sEq (aJoin α r d) α r r) ∧ a9 = aJoin α r d) ∨ (a9 = α ∧ ((c = 1 ∧ ¬ (okI i 6 ∧ okI j 6)))))) 12 100 (g_A base) := by
  have hDk : isDk L K n fR (ad 0) (ad 1) (ad 2) (ad 3) (ad 35) (ad 4) := hR.1.2.2.1
  have hD : isDt L K n fR (ad 3) (ad 5) (ad 6) (ad 7) (ad 8) (ad 9) (ad 10) := hR.1.2.2.2.1
  have hcnt : fI (ad 3) 6 = nI (a_cnt α) := hR.2.2.2.1.1
  have hmc : fI (ad 0) 5 = nI (a_nd α) := hR.2.1
  have hnd : a_nd α ≤ 250 := hR.1.1
  have hc250 : a_cnt α ≤ 250 := Nat.le_trans hR.2.2.1 hnd
  have hDk0 := hDk
  obtain ⟨hLx, hKx, h0x, h1x, h2x, h3x, h4x, hLra, hKra, hnra, hLma, hKma, hnma, hLod, hKod, hnod⟩ := hDk0
  have hD0 := hD
  obtain ⟨hLd, hKd, h0d, h1d, h2d, h3d, h4d, h5d, hLdr, hKdr, hndr, hLdn, hKdn, hndn, hLdk, hKdk, hndk, hLdp, hKdp, hndp, hLdv, hKdv, hndv, hLdg, hKdg, hndg⟩ := hD0
  refine met_ofWH (cc := cL_merge) (maxL := 5) (ret := (some .int)) (hh := [(0, 10, 13, 13)]) (by decide) rfl ?_
  intro p e s m args below meth c s₁ B hml hv
  obtain ⟨rfl, ⟨hPr, hX⟩, hN⟩ := hv
  have hx := B.exec
  have hb := B.bytes
  have hr := B.returns
  have hts := atoms_spec (ws := wsL_merge) B.pre
  have hown : s.vm.findClass RL = some m.cls := findClass_of_methodNamed B.named
  have hlocks := B.notSynchronized
  have hin : meth.name = "merge" := (name_of_methodNamed B.named B.method).1
  have hK := hPr.2.2
  have hG := hPr.gw
  have htab := vx_table (x := yL_merge) B (hts (.codeWith yL_merge cL_merge 5 (some .int) [(0, 10, 13, 13)]) (by unfold wsL_merge; exact List.mem_cons_self))
  have hl := lv_entry ([.ref (ad 0), .int i, .int j, .ref oa]) (n := 5) (Nat.le_of_ble_eq_true rfl)
  rw [lg_entry_eq]
  generalize (lg_sl ([.ref (ad 0), .int i, .int j, .ref oa]) ++ List.replicate (5 - (lg_sl ([.ref (ad 0), .int i, .int j, .ref oa])).length) Slot.unset).toArray = ls at hl ⊢
  have hl : lv_has ls 5 [(0, .ref (ad 0)), (1, .int i), (2, .int j), (3, .ref oa)] := hl
  refine g_start hPr (fun H locs hG => ?_)
  refine lv_aload_n hx hb dL_merge_0 rfl (lv_at hl 3 rfl) ?_
  refine lv_iconst (v := 0) hx hb dL_merge_1 (by decide) ?_
  refine lv_aload_n hx hb dL_merge_2 rfl (lv_at hl 0 rfl) ?_
  refine lv_iload_n hx hb dL_merge_3 rfl (lv_at hl 1 rfl) ?_
  refine lv_iload_n hx hb dL_merge_4 rfl (lv_at hl 2 rfl) ?_
  refine g_xi (vx_runV (As := [.int i, .int j]) (rest := [.int 0, .ref oa]) ⟨hx, hb, hml, hown, hts⟩ (c_merge l G base hl0 hR (i := i) (j := j)) (cwV 2 hts gL_merge_X2_merge rfl rfl rfl (by decide +kernel) ⟨(Nat.le_of_ble_eq_true rfl), (Nat.le_of_ble_eq_true rfl)⟩) (g_px2 hK hX hG hLx hKx) rfl rfl hl.1 rfl (lv_room (Nat.le_of_ble_eq_true rfl)) dL_merge_5 ⟨(Nat.le_of_ble_eq_true rfl), (Nat.le_of_ble_eq_true rfl)⟩) hG (fun E ce q9 H locs hpx hG hce hcv hcl => ?_) (fun y1 u H locs hp hG => ?_)
  · obtain ⟨rfl, h1⟩ := hpx
    refine vx_catch (own := RL) (name := "java/lang/IndexOutOfBoundsException") hown ([] : List ExceptionTableEntry) (⟨0, 10, 13, 13⟩ : ExceptionTableEntry) ([] : List ExceptionTableEntry) (by rw [htab]; rfl) (fun z hz => nomatch hz) (by decide) (by decide) (hts (.classLink RL 13 "java/lang/IndexOutOfBoundsException") (by decide +kernel)) (va_Nw.use rfl hN.1.1) hce hcv hcl ?_
    refine lv_astore (lv' := [(4, .ref q9), (0, .ref (ad 0)), (1, .int i), (2, .int j), (3, .ref oa)]) hx hb dL_merge_13 hl (by decide) rfl (fun ls hl => ?_)
    refine lv_iconst (v := 1) hx hb dL_merge_15 (by decide) ?_
    refine W.widen (k := 12) (n := 100) (by omega) (by omega) ?_
    exact W.iret (v := 1) hx hb hr (fun t9 h9 hW9 => ⟨⟨1, ((L, K, n, rI, rJ, rQ, fI, fR), ad, α), rfl, ⟨1, rfl, stpO_id (StpX.rf hR), Or.inr ⟨rfl, ⟨rfl, h1⟩⟩⟩, hG.at h9⟩, hG.2.2.1.F h9⟩) hG.2.2.1.2.2 dL_merge_16
    -- 
  obtain ⟨⟨i1, j1, f1⟩, r, d, cg⟩ := u
  replace hG : gw G base s.heap (L, K, n, i1, j1, rQ, f1, fR) H locs := hG
  obtain ⟨⟨hr6, hri⟩, ⟨hd6, hdi⟩, hx1, hcg, hSt⟩ := hp
  replace hx1 : y1 = bi cg := hx1
  subst hx1
  replace hSt : StpX (L, K, n, rI, rJ, rQ, fI, fR) ad α (L, K, n, i1, j1, rQ, f1, fR) ad (aJoin α r d) := hSt
  have hko := hSt.2.1 oa hLo
  have hLo1 : oa ∈ L := hko.1
  have hKo1 : K oa = 5 := hko.2.1.trans hKo
  have hno1 : n oa = 1 := hko.2.2.1.trans hno
  refine lv_i2l hx hb dL_merge_8 rfl ?_
  refine g_last hx hb hK hG hLo1 hKo1 (0) rfl (by rw [hno1]; decide) (by rw [hno1]; decide) dL_merge_9 (fun H locs hG => ?_)
  refine lv_goto (tgt := 17) hx hb dL_merge_10 (by decide) ?_
  refine lv_iconst (v := 0) hx hb dL_merge_17 (by decide) ?_
  refine W.widen (k := 12) (n := 100) (by omega) (by omega) ?_
  exact W.iret (v := 0) hx hb hr (fun t9 h9 hW9 => ⟨⟨0, ((L, K, n, i1, g_up j1 oa 0 (((bi cg)).toInt64), rQ, f1, fR), ad, aJoin α r d), rfl, ⟨0, rfl, stpO_of hSt hLo hio, Or.inl ⟨rfl, r, d, cg, hr6, hri, hd6, hdi, g_up_at _ _ _ _, hcg, rfl⟩⟩, hG.at h9⟩, hG.2.2.1.F h9⟩) hG.2.2.1.2.2 dL_merge_18
set_option maxHeartbeats 4000000 in
set_option maxRecDepth 100000 in
/-- the law's group -/
theorem w_group (l : Launch) (G : gG) (base : Nat) {L : List Nat} {K n : Nat → Nat} {rI : Nat → Nat → Int32} {rJ : Nat → Nat → Int64} {rQ : Nat → Nat → Option Nat} {fI : Nat → Nat → Int32} {fR : Nat → Nat → Option Nat} (hl0 : l.stackTraces = false) {ad : Nat → Nat} {α : aT} (hR : RepX (L, K, n, rI, rJ, rQ, fI, fR) ad α) {oa : Nat} (hLo : oa ∈ L) (hKo : K oa = 5) (hno : n oa = 1) (hio : ¬ inX ad (a_nd α) oa) {i j : Int32} : Met l yL_group wsL_group ({ frames := 8, cells := 12, slots := 100, locals := 136 }) (va_Pc [.ref (ad 0), .int i, .int j, .ref oa] (g_Py G base (L, K, n, rI, rJ, rQ, fI, fR))) (wQ G base (L, K, n, rI, rJ, rQ, fI, fR) ad α oa (fun c y9 a9 => (c = 0 ∧ ∃ r ee, r < a_nd α ∧ i = nI r ∧ ee < a_nd α ∧ j = nI ee ∧ y9 = (nI (a_nd α)).toInt64 ∧ a9 = aGroup α r ee) ∨ (a9 = α ∧ ((c = 1 ∧ ¬ (okI i (a_nd α) ∧ okI j (a_nd α))) ∨ (c = 2 ∧ (okI i (a_nd α) ∧ okI j (a_nd α)) ∧ ¬ a_nd α < 250))))) 12 100 (g_A base) := by
  have hDk : isDk L K n fR (ad 0) (ad 1) (ad 2) (ad 3) (ad 35) (ad 4) := hR.1.2.2.1
  have hD : isDt L K n fR (ad 3) (ad 5) (ad 6) (ad 7) (ad 8) (ad 9) (ad 10) := hR.1.2.2.2.1
  have hcnt : fI (ad 3) 6 = nI (a_cnt α) := hR.2.2.2.1.1
  have hmc : fI (ad 0) 5 = nI (a_nd α) := hR.2.1
  have hnd : a_nd α ≤ 250 := hR.1.1
  have hc250 : a_cnt α ≤ 250 := Nat.le_trans hR.2.2.1 hnd
  have hDk0 := hDk
  obtain ⟨hLx, hKx, h0x, h1x, h2x, h3x, h4x, hLra, hKra, hnra, hLma, hKma, hnma, hLod, hKod, hnod⟩ := hDk0
  have hD0 := hD
  obtain ⟨hLd, hKd, h0d, h1d, h2d, h3d, h4d, h5d, hLdr, hKdr, hndr, hLdn, hKdn, hndn, hLdk, hKdk, hndk, hLdp, hKdp, hndp, hLdv, hKdv, hndv, hLdg, hKdg, hndg⟩ := hD0
  refine met_ofWH (cc := cL_group) (maxL := 5) (ret := (some .int)) (hh := [(0, 10, 13, 13), (0, 10, 17, 17)]) (by decide) rfl ?_
  intro p e s m args below meth c s₁ B hml hv
  obtain ⟨rfl, ⟨hPr, hX⟩, hN⟩ := hv
  have hx := B.exec
  have hb := B.bytes
  have hr := B.returns
  have hts := atoms_spec (ws := wsL_group) B.pre
  have hown : s.vm.findClass RL = some m.cls := findClass_of_methodNamed B.named
  have hlocks := B.notSynchronized
  have hin : meth.name = "group" := (name_of_methodNamed B.named B.method).1
  have hK := hPr.2.2
  have hG := hPr.gw
  have htab := vx_table (x := yL_group) B (hts (.codeWith yL_group cL_group 5 (some .int) [(0, 10, 13, 13), (0, 10, 17, 17)]) (by unfold wsL_group; exact List.mem_cons_self))
  have hl := lv_entry ([.ref (ad 0), .int i, .int j, .ref oa]) (n := 5) (Nat.le_of_ble_eq_true rfl)
  rw [lg_entry_eq]
  generalize (lg_sl ([.ref (ad 0), .int i, .int j, .ref oa]) ++ List.replicate (5 - (lg_sl ([.ref (ad 0), .int i, .int j, .ref oa])).length) Slot.unset).toArray = ls at hl ⊢
  have hl : lv_has ls 5 [(0, .ref (ad 0)), (1, .int i), (2, .int j), (3, .ref oa)] := hl
  refine g_start hPr (fun H locs hG => ?_)
  refine lv_aload_n hx hb dL_group_0 rfl (lv_at hl 3 rfl) ?_
  refine lv_iconst (v := 0) hx hb dL_group_1 (by decide) ?_
  refine lv_aload_n hx hb dL_group_2 rfl (lv_at hl 0 rfl) ?_
  refine lv_iload_n hx hb dL_group_3 rfl (lv_at hl 1 rfl) ?_
  refine lv_iload_n hx hb dL_group_4 rfl (lv_at hl 2 rfl) ?_
  refine g_xi (vx_runV (As := [.int i, .int j]) (rest := [.int 0, .ref oa]) ⟨hx, hb, hml, hown, hts⟩ (c_group l G base hl0 hR (i := i) (j := j)) (cwV 2 hts gL_group_X2_group rfl rfl rfl (by decide +kernel) ⟨(Nat.le_of_ble_eq_true rfl), (Nat.le_of_ble_eq_true rfl)⟩) (g_px2 hK hX hG hLx hKx) rfl rfl hl.1 rfl (lv_room (Nat.le_of_ble_eq_true rfl)) dL_group_5 ⟨(Nat.le_of_ble_eq_true rfl), (Nat.le_of_ble_eq_true rfl)⟩) hG (fun E ce q9 H locs hpx hG hce hcv hcl => ?_) (fun y1 u H locs hp hG => ?_)
  · rcases hpx with ⟨rfl, h1⟩ | ⟨rfl, h1⟩
    · refine vx_catch (own := RL) (name := "java/lang/IndexOutOfBoundsException") hown ([] : List ExceptionTableEntry) (⟨0, 10, 13, 13⟩ : ExceptionTableEntry) ([⟨0, 10, 17, 17⟩] : List ExceptionTableEntry) (by rw [htab]; rfl) (fun z hz => nomatch hz) (by decide) (by decide) (hts (.classLink RL 13 "java/lang/IndexOutOfBoundsException") (by decide +kernel)) (va_Nw.use rfl hN.1.1) hce hcv hcl ?_
      refine lv_astore (lv' := [(4, .ref q9), (0, .ref (ad 0)), (1, .int i), (2, .int j), (3, .ref oa)]) hx hb dL_group_13 hl (by decide) rfl (fun ls hl => ?_)
      refine lv_iconst (v := 1) hx hb dL_group_15 (by decide) ?_
      refine W.widen (k := 12) (n := 100) (by omega) (by omega) ?_
      exact W.iret (v := 1) hx hb hr (fun t9 h9 hW9 => ⟨⟨1, ((L, K, n, rI, rJ, rQ, fI, fR), ad, α), rfl, ⟨1, rfl, stpO_id (StpX.rf hR), Or.inr ⟨rfl, Or.inl ⟨rfl, h1⟩⟩⟩, hG.at h9⟩, hG.2.2.1.F h9⟩) hG.2.2.1.2.2 dL_group_16
    · refine vx_catch (own := RL) (name := "java/lang/IllegalStateException") hown ([⟨0, 10, 13, 13⟩] : List ExceptionTableEntry) (⟨0, 10, 17, 17⟩ : ExceptionTableEntry) ([] : List ExceptionTableEntry) (by rw [htab]; rfl) (fun z hz => by
        rcases List.mem_cons.mp hz with q | hz
        · subst q; exact Or.inr ⟨by decide, _, (hts (.classLink RL 13 "java/lang/IndexOutOfBoundsException") (by decide +kernel)), hN.2.2.1⟩
        · exact nomatch hz) (by decide) (by decide) (hts (.classLink RL 17 "java/lang/IllegalStateException") (by decide +kernel)) (va_Nw.use rfl hN.1.2.2.1) hce hcv hcl ?_
      refine lv_astore (lv' := [(4, .ref q9), (0, .ref (ad 0)), (1, .int i), (2, .int j), (3, .ref oa)]) hx hb dL_group_17 hl (by decide) rfl (fun ls hl => ?_)
      refine lv_iconst (v := 2) hx hb dL_group_19 (by decide) ?_
      refine W.widen (k := 12) (n := 100) (by omega) (by omega) ?_
      exact W.iret (v := 2) hx hb hr (fun t9 h9 hW9 => ⟨⟨2, ((L, K, n, rI, rJ, rQ, fI, fR), ad, α), rfl, ⟨2, rfl, stpO_id (StpX.rf hR), Or.inr ⟨rfl, Or.inr ⟨rfl, h1⟩⟩⟩, hG.at h9⟩, hG.2.2.1.F h9⟩) hG.2.2.1.2.2 dL_group_20
    -- 
  obtain ⟨⟨⟨L1, K1, n1, i1, j1, q1, f1, R1⟩, ad1⟩, r, ee⟩ := u
  replace hG : gw G base s.heap (L1, K1, n1, i1, j1, q1, f1, R1) H locs := hG
  obtain ⟨⟨hr6, hri⟩, ⟨he32, hei⟩, hx1, hSt⟩ := hp
  replace hx1 : y1 = (nI (a_nd α)) := hx1
  subst hx1
  replace hSt : StpX (L, K, n, rI, rJ, rQ, fI, fR) ad α (L1, K1, n1, i1, j1, q1, f1, R1) ad1 (aGroup α r ee) := hSt
  have hko := hSt.2.1 oa hLo
  have hLo1 : oa ∈ L1 := hko.1
  have hKo1 : K1 oa = 5 := hko.2.1.trans hKo
  have hno1 : n1 oa = 1 := hko.2.2.1.trans hno
  refine lv_i2l hx hb dL_group_8 rfl ?_
  refine g_last hx hb hK hG hLo1 hKo1 (0) rfl (by rw [hno1]; decide) (by rw [hno1]; decide) dL_group_9 (fun H locs hG => ?_)
  refine lv_goto (tgt := 21) hx hb dL_group_10 (by decide) ?_
  refine lv_iconst (v := 0) hx hb dL_group_21 (by decide) ?_
  refine W.widen (k := 12) (n := 100) (by omega) (by omega) ?_
  exact W.iret (v := 0) hx hb hr (fun t9 h9 hW9 => ⟨⟨0, ((L1, K1, n1, i1, g_up j1 oa 0 (((nI (a_nd α))).toInt64), q1, f1, R1), ad1, aGroup α r ee), rfl, ⟨0, rfl, stpO_of hSt hLo hio, Or.inl ⟨rfl, r, ee, hr6, hri, he32, hei, g_up_at _ _ _ _, rfl⟩⟩, hG.at h9⟩, hG.2.2.1.F h9⟩) hG.2.2.1.2.2 dL_group_22
set_option maxHeartbeats 4000000 in
set_option maxRecDepth 100000 in
/-- the law's whole -/
theorem w_whole (l : Launch) (G : gG) (base : Nat) {L : List Nat} {K n : Nat → Nat} {rI : Nat → Nat → Int32} {rJ : Nat → Nat → Int64} {rQ : Nat → Nat → Option Nat} {fI : Nat → Nat → Int32} {fR : Nat → Nat → Option Nat} (hl0 : l.stackTraces = false) {ad : Nat → Nat} {α : aT} (hR : RepX (L, K, n, rI, rJ, rQ, fI, fR) ad α) {oa : Nat} (hLo : oa ∈ L) (hKo : K oa = 5) (hno : n oa = 1) (hio : ¬ inX ad (a_nd α) oa) {i : Int32} : Met l yL_whole wsL_whole ({ frames := 8, cells := 12, slots := 100, locals := 133 }) (va_Pc [.ref (ad 0), .int i, .ref oa] (g_Py G base (L, K, n, rI, rJ, rQ, fI, fR))) (wQ G base (L, K, n, rI, rJ, rQ, fI, fR) ad α oa (fun c y9 a9 => (c = 0 ∧ ∃ r, r < 6 ∧ i = nI r ∧ y9 = (nI (a_nd α)).toInt64 ∧ a9 = aWhole α r) ∨ (a9 = α ∧ ((c = 1 ∧ ¬ okI i 6) ∨ (c = 2 ∧ okI i 6 ∧ ¬ a_nd α < 250))))) 12 100 (g_A base) := by
  have hDk : isDk L K n fR (ad 0) (ad 1) (ad 2) (ad 3) (ad 35) (ad 4) := hR.1.2.2.1
  have hD : isDt L K n fR (ad 3) (ad 5) (ad 6) (ad 7) (ad 8) (ad 9) (ad 10) := hR.1.2.2.2.1
  have hcnt : fI (ad 3) 6 = nI (a_cnt α) := hR.2.2.2.1.1
  have hmc : fI (ad 0) 5 = nI (a_nd α) := hR.2.1
  have hnd : a_nd α ≤ 250 := hR.1.1
  have hc250 : a_cnt α ≤ 250 := Nat.le_trans hR.2.2.1 hnd
  have hDk0 := hDk
  obtain ⟨hLx, hKx, h0x, h1x, h2x, h3x, h4x, hLra, hKra, hnra, hLma, hKma, hnma, hLod, hKod, hnod⟩ := hDk0
  have hD0 := hD
  obtain ⟨hLd, hKd, h0d, h1d, h2d, h3d, h4d, h5d, hLdr, hKdr, hndr, hLdn, hKdn, hndn, hLdk, hKdk, hndk, hLdp, hKdp, hndp, hLdv, hKdv, hndv, hLdg, hKdg, hndg⟩ := hD0
  refine met_ofWH (cc := cL_whole) (maxL := 4) (ret := (some .int)) (hh := [(0, 9, 12, 13), (0, 9, 15, 17)]) (by decide) rfl ?_
  intro p e s m args below meth c s₁ B hml hv
  obtain ⟨rfl, ⟨hPr, hX⟩, hN⟩ := hv
  have hx := B.exec
  have hb := B.bytes
  have hr := B.returns
  have hts := atoms_spec (ws := wsL_whole) B.pre
  have hown : s.vm.findClass RL = some m.cls := findClass_of_methodNamed B.named
  have hlocks := B.notSynchronized
  have hin : meth.name = "whole" := (name_of_methodNamed B.named B.method).1
  have hK := hPr.2.2
  have hG := hPr.gw
  have htab := vx_table (x := yL_whole) B (hts (.codeWith yL_whole cL_whole 4 (some .int) [(0, 9, 12, 13), (0, 9, 15, 17)]) (by unfold wsL_whole; exact List.mem_cons_self))
  have hl := lv_entry ([.ref (ad 0), .int i, .ref oa]) (n := 4) (Nat.le_of_ble_eq_true rfl)
  rw [lg_entry_eq]
  generalize (lg_sl ([.ref (ad 0), .int i, .ref oa]) ++ List.replicate (4 - (lg_sl ([.ref (ad 0), .int i, .ref oa])).length) Slot.unset).toArray = ls at hl ⊢
  have hl : lv_has ls 4 [(0, .ref (ad 0)), (1, .int i), (2, .ref oa)] := hl
  refine g_start hPr (fun H locs hG => ?_)
  refine lv_aload_n hx hb dL_whole_0 rfl (lv_at hl 2 rfl) ?_
  refine lv_iconst (v := 0) hx hb dL_whole_1 (by decide) ?_
  refine lv_aload_n hx hb dL_whole_2 rfl (lv_at hl 0 rfl) ?_
  refine lv_iload_n hx hb dL_whole_3 rfl (lv_at hl 1 rfl) ?_
  refine g_xi (vx_runV (As := [.int i]) (rest := [.int 0, .ref oa]) ⟨hx, hb, hml, hown, hts⟩ (c_whole l G base hl0 hR (i := i)) (cwV 1 hts gL_whole_X2_whole rfl rfl rfl (by decide +kernel) ⟨(Nat.le_of_ble_eq_true rfl), (Nat.le_of_ble_eq_true rfl)⟩) (g_px2 hK hX hG hLx hKx) rfl rfl hl.1 rfl (lv_room (Nat.le_of_ble_eq_true rfl)) dL_whole_4 ⟨(Nat.le_of_ble_eq_true rfl), (Nat.le_of_ble_eq_true rfl)⟩) hG (fun E ce q9 H locs hpx hG hce hcv hcl => ?_) (fun y1 u H locs hp hG => ?_)
  · rcases hpx with ⟨rfl, h1⟩ | ⟨rfl, h1⟩
    · refine vx_catch (own := RL) (name := "java/lang/IndexOutOfBoundsException") hown ([] : List ExceptionTableEntry) (⟨0, 9, 12, 13⟩ : ExceptionTableEntry) ([⟨0, 9, 15, 17⟩] : List ExceptionTableEntry) (by rw [htab]; rfl) (fun z hz => nomatch hz) (by decide) (by decide) (hts (.classLink RL 13 "java/lang/IndexOutOfBoundsException") (by decide +kernel)) (va_Nw.use rfl hN.1.1) hce hcv hcl ?_
      refine lv_astore_n (lv' := [(3, .ref q9), (0, .ref (ad 0)), (1, .int i), (2, .ref oa)]) hx hb dL_whole_12 rfl hl (by decide) rfl (fun ls hl => ?_)
      refine lv_iconst (v := 1) hx hb dL_whole_13 (by decide) ?_
      refine W.widen (k := 12) (n := 100) (by omega) (by omega) ?_
      exact W.iret (v := 1) hx hb hr (fun t9 h9 hW9 => ⟨⟨1, ((L, K, n, rI, rJ, rQ, fI, fR), ad, α), rfl, ⟨1, rfl, stpO_id (StpX.rf hR), Or.inr ⟨rfl, Or.inl ⟨rfl, h1⟩⟩⟩, hG.at h9⟩, hG.2.2.1.F h9⟩) hG.2.2.1.2.2 dL_whole_14
    · refine vx_catch (own := RL) (name := "java/lang/IllegalStateException") hown ([⟨0, 9, 12, 13⟩] : List ExceptionTableEntry) (⟨0, 9, 15, 17⟩ : ExceptionTableEntry) ([] : List ExceptionTableEntry) (by rw [htab]; rfl) (fun z hz => by
        rcases List.mem_cons.mp hz with q | hz
        · subst q; exact Or.inr ⟨by decide, _, (hts (.classLink RL 13 "java/lang/IndexOutOfBoundsException") (by decide +kernel)), hN.2.2.1⟩
        · exact nomatch hz) (by decide) (by decide) (hts (.classLink RL 17 "java/lang/IllegalStateException") (by decide +kernel)) (va_Nw.use rfl hN.1.2.2.1) hce hcv hcl ?_
      refine lv_astore_n (lv' := [(3, .ref q9), (0, .ref (ad 0)), (1, .int i), (2, .ref oa)]) hx hb dL_whole_15 rfl hl (by decide) rfl (fun ls hl => ?_)
      refine lv_iconst (v := 2) hx hb dL_whole_16 (by decide) ?_
      refine W.widen (k := 12) (n := 100) (by omega) (by omega) ?_
      exact W.iret (v := 2) hx hb hr (fun t9 h9 hW9 => ⟨⟨2, ((L, K, n, rI, rJ, rQ, fI, fR), ad, α), rfl, ⟨2, rfl, stpO_id (StpX.rf hR), Or.inr ⟨rfl, Or.inr ⟨rfl, h1⟩⟩⟩, hG.at h9⟩, hG.2.2.1.F h9⟩) hG.2.2.1.2.2 dL_whole_17
    -- 
  obtain ⟨⟨⟨L1, K1, n1, i1, j1, q1, f1, R1⟩, ad1⟩, r⟩ := u
  replace hG : gw G base s.heap (L1, K1, n1, i1, j1, q1, f1, R1) H locs := hG
  obtain ⟨⟨hr6, hri⟩, hx1, hSt⟩ := hp
  replace hx1 : y1 = (nI (a_nd α)) := hx1
  subst hx1
  replace hSt : StpX (L, K, n, rI, rJ, rQ, fI, fR) ad α (L1, K1, n1, i1, j1, q1, f1, R1) ad1 (aWhole α r) := hSt
  have hko := hSt.2.1 oa hLo
  have hLo1 : oa ∈ L1 := hko.1
  have hKo1 : K1 oa = 5 := hko.2.1.trans hKo
  have hno1 : n1 oa = 1 := hko.2.2.1.trans hno
  refine lv_i2l hx hb dL_whole_7 rfl ?_
  refine g_last hx hb hK hG hLo1 hKo1 (0) rfl (by rw [hno1]; decide) (by rw [hno1]; decide) dL_whole_8 (fun H locs hG => ?_)
  refine lv_goto (tgt := 18) hx hb dL_whole_9 (by decide) ?_
  refine lv_iconst (v := 0) hx hb dL_whole_18 (by decide) ?_
  refine W.widen (k := 12) (n := 100) (by omega) (by omega) ?_
  exact W.iret (v := 0) hx hb hr (fun t9 h9 hW9 => ⟨⟨0, ((L1, K1, n1, i1, g_up j1 oa 0 (((nI (a_nd α))).toInt64), q1, f1, R1), ad1, aWhole α r), rfl, ⟨0, rfl, stpO_of hSt hLo hio, Or.inl ⟨rfl, r, hr6, hri, g_up_at _ _ _ _, rfl⟩⟩, hG.at h9⟩, hG.2.2.1.F h9⟩) hG.2.2.1.2.2 dL_whole_19
set_option maxHeartbeats 4000000 in
set_option maxRecDepth 100000 in
/-- the law's has -/
theorem w_has (l : Launch) (G : gG) (base : Nat) {L : List Nat} {K n : Nat → Nat} {rI : Nat → Nat → Int32} {rJ : Nat → Nat → Int64} {rQ : Nat → Nat → Option Nat} {fI : Nat → Nat → Int32} {fR : Nat → Nat → Option Nat} (hl0 : l.stackTraces = false) {ad : Nat → Nat} {α : aT} (hR : RepX (L, K, n, rI, rJ, rQ, fI, fR) ad α) {oa : Nat} (hLo : oa ∈ L) (hKo : K oa = 5) (hno : n oa = 1) (hio : ¬ inX ad (a_nd α) oa) {i key part : Int32} : Met l yL_has wsL_has ({ frames := 8, cells := 12, slots := 100, locals := 136 }) (va_Pc [.ref (ad 0), .int i, .int key, .int part, .ref oa] (g_Py G base (L, K, n, rI, rJ, rQ, fI, fR))) (wQ G base (L, K, n, rI, rJ, rQ, fI, fR) ad α oa (fun c y9 a9 => (c = 0 ∧ (∃ r, r < 6 ∧ i = nI r ∧ (okI i 6 ∧ okI key 16 ∧ okI part 32) ∧ y9 = (bi (anyN (livA α r key part (-1)) (a_cnt α))).toInt64) ∧ a9 = α) ∨ (a9 = α ∧ ((c = 1 ∧ ¬ (okI i 6 ∧ okI key 16 ∧ okI part 32)))))) 12 100 (g_A base) := by
  have hDk : isDk L K n fR (ad 0) (ad 1) (ad 2) (ad 3) (ad 35) (ad 4) := hR.1.2.2.1
  have hD : isDt L K n fR (ad 3) (ad 5) (ad 6) (ad 7) (ad 8) (ad 9) (ad 10) := hR.1.2.2.2.1
  have hcnt : fI (ad 3) 6 = nI (a_cnt α) := hR.2.2.2.1.1
  have hmc : fI (ad 0) 5 = nI (a_nd α) := hR.2.1
  have hnd : a_nd α ≤ 250 := hR.1.1
  have hc250 : a_cnt α ≤ 250 := Nat.le_trans hR.2.2.1 hnd
  have hDk0 := hDk
  obtain ⟨hLx, hKx, h0x, h1x, h2x, h3x, h4x, hLra, hKra, hnra, hLma, hKma, hnma, hLod, hKod, hnod⟩ := hDk0
  have hD0 := hD
  obtain ⟨hLd, hKd, h0d, h1d, h2d, h3d, h4d, h5d, hLdr, hKdr, hndr, hLdn, hKdn, hndn, hLdk, hKdk, hndk, hLdp, hKdp, hndp, hLdv, hKdv, hndv, hLdg, hKdg, hndg⟩ := hD0
  refine met_ofWH (cc := cL_has) (maxL := 6) (ret := (some .int)) (hh := [(0, 12, 15, 13)]) (by decide) rfl ?_
  intro p e s m args below meth c s₁ B hml hv
  obtain ⟨rfl, ⟨hPr, hX⟩, hN⟩ := hv
  have hx := B.exec
  have hb := B.bytes
  have hr := B.returns
  have hts := atoms_spec (ws := wsL_has) B.pre
  have hown : s.vm.findClass RL = some m.cls := findClass_of_methodNamed B.named
  have hlocks := B.notSynchronized
  have hin : meth.name = "has" := (name_of_methodNamed B.named B.method).1
  have hK := hPr.2.2
  have hG := hPr.gw
  have htab := vx_table (x := yL_has) B (hts (.codeWith yL_has cL_has 6 (some .int) [(0, 12, 15, 13)]) (by unfold wsL_has; exact List.mem_cons_self))
  have hl := lv_entry ([.ref (ad 0), .int i, .int key, .int part, .ref oa]) (n := 6) (Nat.le_of_ble_eq_true rfl)
  rw [lg_entry_eq]
  generalize (lg_sl ([.ref (ad 0), .int i, .int key, .int part, .ref oa]) ++ List.replicate (6 - (lg_sl ([.ref (ad 0), .int i, .int key, .int part, .ref oa])).length) Slot.unset).toArray = ls at hl ⊢
  have hl : lv_has ls 6 [(0, .ref (ad 0)), (1, .int i), (2, .int key), (3, .int part), (4, .ref oa)] := hl
  refine g_start hPr (fun H locs hG => ?_)
  refine lv_aload hx hb dL_has_0 (lv_at hl 4 rfl) ?_
  refine lv_iconst (v := 0) hx hb dL_has_2 (by decide) ?_
  refine lv_aload_n hx hb dL_has_3 rfl (lv_at hl 0 rfl) ?_
  refine lv_iload_n hx hb dL_has_4 rfl (lv_at hl 1 rfl) ?_
  refine lv_iload_n hx hb dL_has_5 rfl (lv_at hl 2 rfl) ?_
  refine lv_iload_n hx hb dL_has_6 rfl (lv_at hl 3 rfl) ?_
  refine g_xi (vx_runV (As := [.int i, .int key, .int part]) (rest := [.int 0, .ref oa]) ⟨hx, hb, hml, hown, hts⟩ (c_has l G base hl0 hR (i := i) (key := key) (part := part)) (cwV 3 hts gL_has_X2_has rfl rfl rfl (by decide +kernel) ⟨(Nat.le_of_ble_eq_true rfl), (Nat.le_of_ble_eq_true rfl)⟩) (g_px2 hK hX hG hLx hKx) rfl rfl hl.1 rfl (lv_room (Nat.le_of_ble_eq_true rfl)) dL_has_7 ⟨(Nat.le_of_ble_eq_true rfl), (Nat.le_of_ble_eq_true rfl)⟩) hG (fun E ce q9 H locs hpx hG hce hcv hcl => ?_) (fun y1 u H locs hp hG => ?_)
  · obtain ⟨rfl, h1⟩ := hpx
    refine vx_catch (own := RL) (name := "java/lang/IndexOutOfBoundsException") hown ([] : List ExceptionTableEntry) (⟨0, 12, 15, 13⟩ : ExceptionTableEntry) ([] : List ExceptionTableEntry) (by rw [htab]; rfl) (fun z hz => nomatch hz) (by decide) (by decide) (hts (.classLink RL 13 "java/lang/IndexOutOfBoundsException") (by decide +kernel)) (va_Nw.use rfl hN.1.1) hce hcv hcl ?_
    refine lv_astore (lv' := [(5, .ref q9), (0, .ref (ad 0)), (1, .int i), (2, .int key), (3, .int part), (4, .ref oa)]) hx hb dL_has_15 hl (by decide) rfl (fun ls hl => ?_)
    refine lv_iconst (v := 1) hx hb dL_has_17 (by decide) ?_
    refine W.widen (k := 12) (n := 100) (by omega) (by omega) ?_
    exact W.iret (v := 1) hx hb hr (fun t9 h9 hW9 => ⟨⟨1, ((L, K, n, rI, rJ, rQ, fI, fR), ad, α), rfl, ⟨1, rfl, stpO_id (StpX.rf hR), Or.inr ⟨rfl, ⟨rfl, h1⟩⟩⟩, hG.at h9⟩, hG.2.2.1.F h9⟩) hG.2.2.1.2.2 dL_has_18
    -- 
  obtain ⟨⟨hr6, hri⟩, hok, hx1⟩ := hp
  subst hx1
  have hSt : StpX (L, K, n, rI, rJ, rQ, fI, fR) ad α (L, K, n, rI, rJ, rQ, fI, fR) ad α := StpX.rf hR
  have hko := hSt.2.1 oa hLo
  have hLo1 : oa ∈ L := hko.1
  have hKo1 : K oa = 5 := hko.2.1.trans hKo
  have hno1 : n oa = 1 := hko.2.2.1.trans hno
  refine lv_i2l hx hb dL_has_10 rfl ?_
  refine g_last hx hb hK hG hLo1 hKo1 (0) rfl (by rw [hno1]; decide) (by rw [hno1]; decide) dL_has_11 (fun H locs hG => ?_)
  refine lv_goto (tgt := 19) hx hb dL_has_12 (by decide) ?_
  refine lv_iconst (v := 0) hx hb dL_has_19 (by decide) ?_
  refine W.widen (k := 12) (n := 100) (by omega) (by omega) ?_
  exact W.iret (v := 0) hx hb hr (fun t9 h9 hW9 => ⟨⟨0, ((L, K, n, rI, g_up rJ oa 0 (((bi (anyN (livA α u key part (-1)) (a_cnt α)))).toInt64), rQ, fI, fR), ad, α), rfl, ⟨0, rfl, stpO_of hSt hLo hio, Or.inl ⟨rfl, ⟨u, hr6, hri, hok, g_up_at _ _ _ _⟩, rfl⟩⟩, hG.at h9⟩, hG.2.2.1.F h9⟩) hG.2.2.1.2.2 dL_has_20
set_option maxHeartbeats 4000000 in
set_option maxRecDepth 100000 in
/-- the law's sum -/
theorem w_sum (l : Launch) (G : gG) (base : Nat) {L : List Nat} {K n : Nat → Nat} {rI : Nat → Nat → Int32} {rJ : Nat → Nat → Int64} {rQ : Nat → Nat → Option Nat} {fI : Nat → Nat → Int32} {fR : Nat → Nat → Option Nat} (hl0 : l.stackTraces = false) {ad : Nat → Nat} {α : aT} (hR : RepX (L, K, n, rI, rJ, rQ, fI, fR) ad α) {oa : Nat} (hLo : oa ∈ L) (hKo : K oa = 5) (hno : n oa = 1) (hio : ¬ inX ad (a_nd α) oa) {i key : Int32} : Met l yL_sum wsL_sum ({ frames := 8, cells := 12, slots := 100, locals := 137 }) (va_Pc [.ref (ad 0), .int i, .int key, .ref oa] (g_Py G base (L, K, n, rI, rJ, rQ, fI, fR))) (wQ G base (L, K, n, rI, rJ, rQ, fI, fR) ad α oa (fun c y9 a9 => (c = 0 ∧ (∃ r, r < 6 ∧ i = nI r ∧ (okI i 6 ∧ okI key 16) ∧ y9 = sumN (livA α r key (-1) (-1)) (a_val α) (a_cnt α)) ∧ a9 = α) ∨ (a9 = α ∧ ((c = 1 ∧ ¬ (okI i 6 ∧ okI key 16)))))) 12 100 (g_A base) := by
  have hDk : isDk L K n fR (ad 0) (ad 1) (ad 2) (ad 3) (ad 35) (ad 4) := hR.1.2.2.1
  have hD : isDt L K n fR (ad 3) (ad 5) (ad 6) (ad 7) (ad 8) (ad 9) (ad 10) := hR.1.2.2.2.1
  have hcnt : fI (ad 3) 6 = nI (a_cnt α) := hR.2.2.2.1.1
  have hmc : fI (ad 0) 5 = nI (a_nd α) := hR.2.1
  have hnd : a_nd α ≤ 250 := hR.1.1
  have hc250 : a_cnt α ≤ 250 := Nat.le_trans hR.2.2.1 hnd
  have hDk0 := hDk
  obtain ⟨hLx, hKx, h0x, h1x, h2x, h3x, h4x, hLra, hKra, hnra, hLma, hKma, hnma, hLod, hKod, hnod⟩ := hDk0
  have hD0 := hD
  obtain ⟨hLd, hKd, h0d, h1d, h2d, h3d, h4d, h5d, hLdr, hKdr, hndr, hLdn, hKdn, hndn, hLdk, hKdk, hndk, hLdp, hKdp, hndp, hLdv, hKdv, hndv, hLdg, hKdg, hndg⟩ := hD0
  refine met_ofWH (cc := cL_sum) (maxL := 5) (ret := (some .int)) (hh := [(0, 9, 12, 13)]) (by decide) rfl ?_
  intro p e s m args below meth c s₁ B hml hv
  obtain ⟨rfl, ⟨hPr, hX⟩, hN⟩ := hv
  have hx := B.exec
  have hb := B.bytes
  have hr := B.returns
  have hts := atoms_spec (ws := wsL_sum) B.pre
  have hown : s.vm.findClass RL = some m.cls := findClass_of_methodNamed B.named
  have hlocks := B.notSynchronized
  have hin : meth.name = "sum" := (name_of_methodNamed B.named B.method).1
  have hK := hPr.2.2
  have hG := hPr.gw
  have htab := vx_table (x := yL_sum) B (hts (.codeWith yL_sum cL_sum 5 (some .int) [(0, 9, 12, 13)]) (by unfold wsL_sum; exact List.mem_cons_self))
  have hl := lv_entry ([.ref (ad 0), .int i, .int key, .ref oa]) (n := 5) (Nat.le_of_ble_eq_true rfl)
  rw [lg_entry_eq]
  generalize (lg_sl ([.ref (ad 0), .int i, .int key, .ref oa]) ++ List.replicate (5 - (lg_sl ([.ref (ad 0), .int i, .int key, .ref oa])).length) Slot.unset).toArray = ls at hl ⊢
  have hl : lv_has ls 5 [(0, .ref (ad 0)), (1, .int i), (2, .int key), (3, .ref oa)] := hl
  refine g_start hPr (fun H locs hG => ?_)
  refine lv_aload_n hx hb dL_sum_0 rfl (lv_at hl 3 rfl) ?_
  refine lv_iconst (v := 0) hx hb dL_sum_1 (by decide) ?_
  refine lv_aload_n hx hb dL_sum_2 rfl (lv_at hl 0 rfl) ?_
  refine lv_iload_n hx hb dL_sum_3 rfl (lv_at hl 1 rfl) ?_
  refine lv_iload_n hx hb dL_sum_4 rfl (lv_at hl 2 rfl) ?_
  refine g_xl (vx_runV (As := [.int i, .int key]) (rest := [.int 0, .ref oa]) ⟨hx, hb, hml, hown, hts⟩ (c_sum l G base hl0 hR (i := i) (key := key)) (cwV 2 hts gL_sum_X2_sum rfl rfl rfl (by decide +kernel) ⟨(Nat.le_of_ble_eq_true rfl), (Nat.le_of_ble_eq_true rfl)⟩) (g_px2 hK hX hG hLx hKx) rfl rfl hl.1 rfl (lv_room (Nat.le_of_ble_eq_true rfl)) dL_sum_5 ⟨(Nat.le_of_ble_eq_true rfl), (Nat.le_of_ble_eq_true rfl)⟩) hG (fun E ce q9 H locs hpx hG hce hcv hcl => ?_) (fun y1 u H locs hp hG => ?_)
  · obtain ⟨rfl, h1⟩ := hpx
    refine vx_catch (own := RL) (name := "java/lang/IndexOutOfBoundsException") hown ([] : List ExceptionTableEntry) (⟨0, 9, 12, 13⟩ : ExceptionTableEntry) ([] : List ExceptionTableEntry) (by rw [htab]; rfl) (fun z hz => nomatch hz) (by decide) (by decide) (hts (.classLink RL 13 "java/lang/IndexOutOfBoundsException") (by decide +kernel)) (va_Nw.use rfl hN.1.1) hce hcv hcl ?_
    refine lv_astore (lv' := [(4, .ref q9), (0, .ref (ad 0)), (1, .int i), (2, .int key), (3, .ref oa)]) hx hb dL_sum_12 hl (by decide) rfl (fun ls hl => ?_)
    refine lv_iconst (v := 1) hx hb dL_sum_14 (by decide) ?_
    refine W.widen (k := 12) (n := 100) (by omega) (by omega) ?_
    exact W.iret (v := 1) hx hb hr (fun t9 h9 hW9 => ⟨⟨1, ((L, K, n, rI, rJ, rQ, fI, fR), ad, α), rfl, ⟨1, rfl, stpO_id (StpX.rf hR), Or.inr ⟨rfl, ⟨rfl, h1⟩⟩⟩, hG.at h9⟩, hG.2.2.1.F h9⟩) hG.2.2.1.2.2 dL_sum_15
    -- 
  obtain ⟨⟨hr6, hri⟩, hok, hx1⟩ := hp
  subst hx1
  have hSt : StpX (L, K, n, rI, rJ, rQ, fI, fR) ad α (L, K, n, rI, rJ, rQ, fI, fR) ad α := StpX.rf hR
  have hko := hSt.2.1 oa hLo
  have hLo1 : oa ∈ L := hko.1
  have hKo1 : K oa = 5 := hko.2.1.trans hKo
  have hno1 : n oa = 1 := hko.2.2.1.trans hno
  refine g_last hx hb hK hG hLo1 hKo1 (0) rfl (by rw [hno1]; decide) (by rw [hno1]; decide) dL_sum_8 (fun H locs hG => ?_)
  refine lv_goto (tgt := 16) hx hb dL_sum_9 (by decide) ?_
  refine lv_iconst (v := 0) hx hb dL_sum_16 (by decide) ?_
  refine W.widen (k := 12) (n := 100) (by omega) (by omega) ?_
  exact W.iret (v := 0) hx hb hr (fun t9 h9 hW9 => ⟨⟨0, ((L, K, n, rI, g_up rJ oa 0 (sumN (livA α u key (-1) (-1)) (a_val α) (a_cnt α)), rQ, fI, fR), ad, α), rfl, ⟨0, rfl, stpO_of hSt hLo hio, Or.inl ⟨rfl, ⟨u, hr6, hri, hok, g_up_at _ _ _ _⟩, rfl⟩⟩, hG.at h9⟩, hG.2.2.1.F h9⟩) hG.2.2.1.2.2 dL_sum_17
set_option maxHeartbeats 4000000 in
set_option maxRecDepth 100000 in
/-- the law's keys -/
theorem w_keys (l : Launch) (G : gG) (base : Nat) {L : List Nat} {K n : Nat → Nat} {rI : Nat → Nat → Int32} {rJ : Nat → Nat → Int64} {rQ : Nat → Nat → Option Nat} {fI : Nat → Nat → Int32} {fR : Nat → Nat → Option Nat} (hl0 : l.stackTraces = false) {ad : Nat → Nat} {α : aT} (hR : RepX (L, K, n, rI, rJ, rQ, fI, fR) ad α) {oa : Nat} (hLo : oa ∈ L) (hKo : K oa = 5) (hno : n oa = 1) (hio : ¬ inX ad (a_nd α) oa) {i : Int32} : Met l yL_keys wsL_keys ({ frames := 8, cells := 12, slots := 100, locals := 135 }) (va_Pc [.ref (ad 0), .int i, .ref oa] (g_Py G base (L, K, n, rI, rJ, rQ, fI, fR))) (wQ G base (L, K, n, rI, rJ, rQ, fI, fR) ad α oa (fun c y9 a9 => (c = 0 ∧ (∃ r, r < 6 ∧ i = nI r ∧ y9 = (orK (a_L α r) (a_key α) (a_cnt α)).toInt64) ∧ a9 = α) ∨ (a9 = α ∧ ((c = 1 ∧ ¬ okI i 6))))) 12 100 (g_A base) := by
  have hDk : isDk L K n fR (ad 0) (ad 1) (ad 2) (ad 3) (ad 35) (ad 4) := hR.1.2.2.1
  have hD : isDt L K n fR (ad 3) (ad 5) (ad 6) (ad 7) (ad 8) (ad 9) (ad 10) := hR.1.2.2.2.1
  have hcnt : fI (ad 3) 6 = nI (a_cnt α) := hR.2.2.2.1.1
  have hmc : fI (ad 0) 5 = nI (a_nd α) := hR.2.1
  have hnd : a_nd α ≤ 250 := hR.1.1
  have hc250 : a_cnt α ≤ 250 := Nat.le_trans hR.2.2.1 hnd
  have hDk0 := hDk
  obtain ⟨hLx, hKx, h0x, h1x, h2x, h3x, h4x, hLra, hKra, hnra, hLma, hKma, hnma, hLod, hKod, hnod⟩ := hDk0
  have hD0 := hD
  obtain ⟨hLd, hKd, h0d, h1d, h2d, h3d, h4d, h5d, hLdr, hKdr, hndr, hLdn, hKdn, hndn, hLdk, hKdk, hndk, hLdp, hKdp, hndp, hLdv, hKdv, hndv, hLdg, hKdg, hndg⟩ := hD0
  refine met_ofWH (cc := cL_keys) (maxL := 4) (ret := (some .int)) (hh := [(0, 9, 12, 13)]) (by decide) rfl ?_
  intro p e s m args below meth c s₁ B hml hv
  obtain ⟨rfl, ⟨hPr, hX⟩, hN⟩ := hv
  have hx := B.exec
  have hb := B.bytes
  have hr := B.returns
  have hts := atoms_spec (ws := wsL_keys) B.pre
  have hown : s.vm.findClass RL = some m.cls := findClass_of_methodNamed B.named
  have hlocks := B.notSynchronized
  have hin : meth.name = "keys" := (name_of_methodNamed B.named B.method).1
  have hK := hPr.2.2
  have hG := hPr.gw
  have htab := vx_table (x := yL_keys) B (hts (.codeWith yL_keys cL_keys 4 (some .int) [(0, 9, 12, 13)]) (by unfold wsL_keys; exact List.mem_cons_self))
  have hl := lv_entry ([.ref (ad 0), .int i, .ref oa]) (n := 4) (Nat.le_of_ble_eq_true rfl)
  rw [lg_entry_eq]
  generalize (lg_sl ([.ref (ad 0), .int i, .ref oa]) ++ List.replicate (4 - (lg_sl ([.ref (ad 0), .int i, .ref oa])).length) Slot.unset).toArray = ls at hl ⊢
  have hl : lv_has ls 4 [(0, .ref (ad 0)), (1, .int i), (2, .ref oa)] := hl
  refine g_start hPr (fun H locs hG => ?_)
  refine lv_aload_n hx hb dL_keys_0 rfl (lv_at hl 2 rfl) ?_
  refine lv_iconst (v := 0) hx hb dL_keys_1 (by decide) ?_
  refine lv_aload_n hx hb dL_keys_2 rfl (lv_at hl 0 rfl) ?_
  refine lv_iload_n hx hb dL_keys_3 rfl (lv_at hl 1 rfl) ?_
  refine g_xi (vx_runV (As := [.int i]) (rest := [.int 0, .ref oa]) ⟨hx, hb, hml, hown, hts⟩ (c_keys l G base hl0 hR (i := i)) (cwV 1 hts gL_keys_X2_keys rfl rfl rfl (by decide +kernel) ⟨(Nat.le_of_ble_eq_true rfl), (Nat.le_of_ble_eq_true rfl)⟩) (g_px2 hK hX hG hLx hKx) rfl rfl hl.1 rfl (lv_room (Nat.le_of_ble_eq_true rfl)) dL_keys_4 ⟨(Nat.le_of_ble_eq_true rfl), (Nat.le_of_ble_eq_true rfl)⟩) hG (fun E ce q9 H locs hpx hG hce hcv hcl => ?_) (fun y1 u H locs hp hG => ?_)
  · obtain ⟨rfl, h1⟩ := hpx
    refine vx_catch (own := RL) (name := "java/lang/IndexOutOfBoundsException") hown ([] : List ExceptionTableEntry) (⟨0, 9, 12, 13⟩ : ExceptionTableEntry) ([] : List ExceptionTableEntry) (by rw [htab]; rfl) (fun z hz => nomatch hz) (by decide) (by decide) (hts (.classLink RL 13 "java/lang/IndexOutOfBoundsException") (by decide +kernel)) (va_Nw.use rfl hN.1.1) hce hcv hcl ?_
    refine lv_astore_n (lv' := [(3, .ref q9), (0, .ref (ad 0)), (1, .int i), (2, .ref oa)]) hx hb dL_keys_12 rfl hl (by decide) rfl (fun ls hl => ?_)
    refine lv_iconst (v := 1) hx hb dL_keys_13 (by decide) ?_
    refine W.widen (k := 12) (n := 100) (by omega) (by omega) ?_
    exact W.iret (v := 1) hx hb hr (fun t9 h9 hW9 => ⟨⟨1, ((L, K, n, rI, rJ, rQ, fI, fR), ad, α), rfl, ⟨1, rfl, stpO_id (StpX.rf hR), Or.inr ⟨rfl, ⟨rfl, h1⟩⟩⟩, hG.at h9⟩, hG.2.2.1.F h9⟩) hG.2.2.1.2.2 dL_keys_14
    -- 
  obtain ⟨⟨hr6, hri⟩, hx1⟩ := hp
  subst hx1
  have hSt : StpX (L, K, n, rI, rJ, rQ, fI, fR) ad α (L, K, n, rI, rJ, rQ, fI, fR) ad α := StpX.rf hR
  have hko := hSt.2.1 oa hLo
  have hLo1 : oa ∈ L := hko.1
  have hKo1 : K oa = 5 := hko.2.1.trans hKo
  have hno1 : n oa = 1 := hko.2.2.1.trans hno
  refine lv_i2l hx hb dL_keys_7 rfl ?_
  refine g_last hx hb hK hG hLo1 hKo1 (0) rfl (by rw [hno1]; decide) (by rw [hno1]; decide) dL_keys_8 (fun H locs hG => ?_)
  refine lv_goto (tgt := 15) hx hb dL_keys_9 (by decide) ?_
  refine lv_iconst (v := 0) hx hb dL_keys_15 (by decide) ?_
  refine W.widen (k := 12) (n := 100) (by omega) (by omega) ?_
  exact W.iret (v := 0) hx hb hr (fun t9 h9 hW9 => ⟨⟨0, ((L, K, n, rI, g_up rJ oa 0 (((orK (a_L α u) (a_key α) (a_cnt α))).toInt64), rQ, fI, fR), ad, α), rfl, ⟨0, rfl, stpO_of hSt hLo hio, Or.inl ⟨rfl, ⟨u, hr6, hri, g_up_at _ _ _ _⟩, rfl⟩⟩, hG.at h9⟩, hG.2.2.1.F h9⟩) hG.2.2.1.2.2 dL_keys_16
set_option maxHeartbeats 4000000 in
set_option maxRecDepth 100000 in
/-- the law's inTwice -/
theorem w_inTwice (l : Launch) (G : gG) (base : Nat) {L : List Nat} {K n : Nat → Nat} {rI : Nat → Nat → Int32} {rJ : Nat → Nat → Int64} {rQ : Nat → Nat → Option Nat} {fI : Nat → Nat → Int32} {fR : Nat → Nat → Option Nat} (hl0 : l.stackTraces = false) {ad : Nat → Nat} {α : aT} (hR : RepX (L, K, n, rI, rJ, rQ, fI, fR) ad α) {oa : Nat} (hLo : oa ∈ L) (hKo : K oa = 5) (hno : n oa = 1) (hio : ¬ inX ad (a_nd α) oa) {i el : Int32} : Met l yL_inTwice wsL_inTwice ({ frames := 8, cells := 12, slots := 100, locals := 134 }) (va_Pc [.ref (ad 0), .int i, .int el, .ref oa] (g_Py G base (L, K, n, rI, rJ, rQ, fI, fR))) (wQ G base (L, K, n, rI, rJ, rQ, fI, fR) ad α oa (fun c y9 a9 => (c = 0 ∧ (∃ r ee, r < 6 ∧ i = nI r ∧ ee < 32 ∧ el = nI ee ∧ y9 = (((a_P α r &&& (a_T α r ^^^ (-1))).toUInt32 >>> ((nI ee).toUInt32 &&& Int32.toUInt32 31)).toInt32 &&& 1).toInt64) ∧ a9 = α) ∨ (a9 = α ∧ ((c = 1 ∧ ¬ (okI i 6 ∧ okI el 32)))))) 12 100 (g_A base) := by
  have hDk : isDk L K n fR (ad 0) (ad 1) (ad 2) (ad 3) (ad 35) (ad 4) := hR.1.2.2.1
  have hD : isDt L K n fR (ad 3) (ad 5) (ad 6) (ad 7) (ad 8) (ad 9) (ad 10) := hR.1.2.2.2.1
  have hcnt : fI (ad 3) 6 = nI (a_cnt α) := hR.2.2.2.1.1
  have hmc : fI (ad 0) 5 = nI (a_nd α) := hR.2.1
  have hnd : a_nd α ≤ 250 := hR.1.1
  have hc250 : a_cnt α ≤ 250 := Nat.le_trans hR.2.2.1 hnd
  have hDk0 := hDk
  obtain ⟨hLx, hKx, h0x, h1x, h2x, h3x, h4x, hLra, hKra, hnra, hLma, hKma, hnma, hLod, hKod, hnod⟩ := hDk0
  have hD0 := hD
  obtain ⟨hLd, hKd, h0d, h1d, h2d, h3d, h4d, h5d, hLdr, hKdr, hndr, hLdn, hKdn, hndn, hLdk, hKdk, hndk, hLdp, hKdp, hndp, hLdv, hKdv, hndv, hLdg, hKdg, hndg⟩ := hD0
  refine met_ofWH (cc := cL_inTwice) (maxL := 5) (ret := (some .int)) (hh := [(0, 10, 13, 13)]) (by decide) rfl ?_
  intro p e s m args below meth c s₁ B hml hv
  obtain ⟨rfl, ⟨hPr, hX⟩, hN⟩ := hv
  have hx := B.exec
  have hb := B.bytes
  have hr := B.returns
  have hts := atoms_spec (ws := wsL_inTwice) B.pre
  have hown : s.vm.findClass RL = some m.cls := findClass_of_methodNamed B.named
  have hlocks := B.notSynchronized
  have hin : meth.name = "inTwice" := (name_of_methodNamed B.named B.method).1
  have hK := hPr.2.2
  have hG := hPr.gw
  have htab := vx_table (x := yL_inTwice) B (hts (.codeWith yL_inTwice cL_inTwice 5 (some .int) [(0, 10, 13, 13)]) (by unfold wsL_inTwice; exact List.mem_cons_self))
  have hl := lv_entry ([.ref (ad 0), .int i, .int el, .ref oa]) (n := 5) (Nat.le_of_ble_eq_true rfl)
  rw [lg_entry_eq]
  generalize (lg_sl ([.ref (ad 0), .int i, .int el, .ref oa]) ++ List.replicate (5 - (lg_sl ([.ref (ad 0), .int i, .int el, .ref oa])).length) Slot.unset).toArray = ls at hl ⊢
  have hl : lv_has ls 5 [(0, .ref (ad 0)), (1, .int i), (2, .int el), (3, .ref oa)] := hl
  refine g_start hPr (fun H locs hG => ?_)
  refine lv_aload_n hx hb dL_inTwice_0 rfl (lv_at hl 3 rfl) ?_
  refine lv_iconst (v := 0) hx hb dL_inTwice_1 (by decide) ?_
  refine lv_aload_n hx hb dL_inTwice_2 rfl (lv_at hl 0 rfl) ?_
  refine lv_iload_n hx hb dL_inTwice_3 rfl (lv_at hl 1 rfl) ?_
  refine lv_iload_n hx hb dL_inTwice_4 rfl (lv_at hl 2 rfl) ?_
  refine g_xi (vx_runV (As := [.int i, .int el]) (rest := [.int 0, .ref oa]) ⟨hx, hb, hml, hown, hts⟩ (c_inTwice l G base hl0 hR (i := i) (el := el)) (cwV 2 hts gL_inTwice_X2_inTwice rfl rfl rfl (by decide +kernel) ⟨(Nat.le_of_ble_eq_true rfl), (Nat.le_of_ble_eq_true rfl)⟩) (g_px2 hK hX hG hLx hKx) rfl rfl hl.1 rfl (lv_room (Nat.le_of_ble_eq_true rfl)) dL_inTwice_5 ⟨(Nat.le_of_ble_eq_true rfl), (Nat.le_of_ble_eq_true rfl)⟩) hG (fun E ce q9 H locs hpx hG hce hcv hcl => ?_) (fun y1 u H locs hp hG => ?_)
  · obtain ⟨rfl, h1⟩ := hpx
    refine vx_catch (own := RL) (name := "java/lang/IndexOutOfBoundsException") hown ([] : List ExceptionTableEntry) (⟨0, 10, 13, 13⟩ : ExceptionTableEntry) ([] : List ExceptionTableEntry) (by rw [htab]; rfl) (fun z hz => nomatch hz) (by decide) (by decide) (hts (.classLink RL 13 "java/lang/IndexOutOfBoundsException") (by decide +kernel)) (va_Nw.use rfl hN.1.1) hce hcv hcl ?_
    refine lv_astore (lv' := [(4, .ref q9), (0, .ref (ad 0)), (1, .int i), (2, .int el), (3, .ref oa)]) hx hb dL_inTwice_13 hl (by decide) rfl (fun ls hl => ?_)
    refine lv_iconst (v := 1) hx hb dL_inTwice_15 (by decide) ?_
    refine W.widen (k := 12) (n := 100) (by omega) (by omega) ?_
    exact W.iret (v := 1) hx hb hr (fun t9 h9 hW9 => ⟨⟨1, ((L, K, n, rI, rJ, rQ, fI, fR), ad, α), rfl, ⟨1, rfl, stpO_id (StpX.rf hR), Or.inr ⟨rfl, ⟨rfl, h1⟩⟩⟩, hG.at h9⟩, hG.2.2.1.F h9⟩) hG.2.2.1.2.2 dL_inTwice_16
    -- 
  obtain ⟨r, ee⟩ := u
  obtain ⟨⟨hr6, hri⟩, ⟨he32, hei⟩, hx1⟩ := hp
  replace hx1 : y1 = (((a_P α r &&& (a_T α r ^^^ (-1))).toUInt32 >>> ((nI ee).toUInt32 &&& Int32.toUInt32 31)).toInt32 &&& 1) := hx1
  subst hx1
  have hSt : StpX (L, K, n, rI, rJ, rQ, fI, fR) ad α (L, K, n, rI, rJ, rQ, fI, fR) ad α := StpX.rf hR
  have hko := hSt.2.1 oa hLo
  have hLo1 : oa ∈ L := hko.1
  have hKo1 : K oa = 5 := hko.2.1.trans hKo
  have hno1 : n oa = 1 := hko.2.2.1.trans hno
  refine lv_i2l hx hb dL_inTwice_8 rfl ?_
  refine g_last hx hb hK hG hLo1 hKo1 (0) rfl (by rw [hno1]; decide) (by rw [hno1]; decide) dL_inTwice_9 (fun H locs hG => ?_)
  refine lv_goto (tgt := 17) hx hb dL_inTwice_10 (by decide) ?_
  refine lv_iconst (v := 0) hx hb dL_inTwice_17 (by decide) ?_
  refine W.widen (k := 12) (n := 100) (by omega) (by omega) ?_
  exact W.iret (v := 0) hx hb hr (fun t9 h9 hW9 => ⟨⟨0, ((L, K, n, rI, g_up rJ oa 0 (((((a_P α r &&& (a_T α r ^^^ (-1))).toUInt32 >>> ((nI ee).toUInt32 &&& Int32.toUInt32 31)).toInt32 &&& 1)).toInt64), rQ, fI, fR), ad, α), rfl, ⟨0, rfl, stpO_of hSt hLo hio, Or.inl ⟨rfl, ⟨r, ee, hr6, hri, he32, hei, g_up_at _ _ _ _⟩, rfl⟩⟩, hG.at h9⟩, hG.2.2.1.F h9⟩) hG.2.2.1.2.2 dL_inTwice_18
set_option maxHeartbeats 4000000 in
set_option maxRecDepth 100000 in
/-- the law's inTimed -/
theorem w_inTimed (l : Launch) (G : gG) (base : Nat) {L : List Nat} {K n : Nat → Nat} {rI : Nat → Nat → Int32} {rJ : Nat → Nat → Int64} {rQ : Nat → Nat → Option Nat} {fI : Nat → Nat → Int32} {fR : Nat → Nat → Option Nat} (hl0 : l.stackTraces = false) {ad : Nat → Nat} {α : aT} (hR : RepX (L, K, n, rI, rJ, rQ, fI, fR) ad α) {oa : Nat} (hLo : oa ∈ L) (hKo : K oa = 5) (hno : n oa = 1) (hio : ¬ inX ad (a_nd α) oa) {i el wh : Int32} : Met l yL_inTimed wsL_inTimed ({ frames := 8, cells := 12, slots := 100, locals := 136 }) (va_Pc [.ref (ad 0), .int i, .int el, .int wh, .ref oa] (g_Py G base (L, K, n, rI, rJ, rQ, fI, fR))) (wQ G base (L, K, n, rI, rJ, rQ, fI, fR) ad α oa (fun c y9 a9 => (c = 0 ∧ (∃ r ee, r < 6 ∧ i = nI r ∧ ee < 32 ∧ el = nI ee ∧ okI wh 3 ∧ y9 = (timA (a_M α r ee) wh).toInt64) ∧ a9 = α) ∨ (a9 = α ∧ ((c = 1 ∧ ¬ (okI i 6 ∧ okI el 32 ∧ okI wh 3)))))) 12 100 (g_A base) := by
  have hDk : isDk L K n fR (ad 0) (ad 1) (ad 2) (ad 3) (ad 35) (ad 4) := hR.1.2.2.1
  have hD : isDt L K n fR (ad 3) (ad 5) (ad 6) (ad 7) (ad 8) (ad 9) (ad 10) := hR.1.2.2.2.1
  have hcnt : fI (ad 3) 6 = nI (a_cnt α) := hR.2.2.2.1.1
  have hmc : fI (ad 0) 5 = nI (a_nd α) := hR.2.1
  have hnd : a_nd α ≤ 250 := hR.1.1
  have hc250 : a_cnt α ≤ 250 := Nat.le_trans hR.2.2.1 hnd
  have hDk0 := hDk
  obtain ⟨hLx, hKx, h0x, h1x, h2x, h3x, h4x, hLra, hKra, hnra, hLma, hKma, hnma, hLod, hKod, hnod⟩ := hDk0
  have hD0 := hD
  obtain ⟨hLd, hKd, h0d, h1d, h2d, h3d, h4d, h5d, hLdr, hKdr, hndr, hLdn, hKdn, hndn, hLdk, hKdk, hndk, hLdp, hKdp, hndp, hLdv, hKdv, hndv, hLdg, hKdg, hndg⟩ := hD0
  refine met_ofWH (cc := cL_inTimed) (maxL := 6) (ret := (some .int)) (hh := [(0, 12, 15, 13)]) (by decide) rfl ?_
  intro p e s m args below meth c s₁ B hml hv
  obtain ⟨rfl, ⟨hPr, hX⟩, hN⟩ := hv
  have hx := B.exec
  have hb := B.bytes
  have hr := B.returns
  have hts := atoms_spec (ws := wsL_inTimed) B.pre
  have hown : s.vm.findClass RL = some m.cls := findClass_of_methodNamed B.named
  have hlocks := B.notSynchronized
  have hin : meth.name = "inTimed" := (name_of_methodNamed B.named B.method).1
  have hK := hPr.2.2
  have hG := hPr.gw
  have htab := vx_table (x := yL_inTimed) B (hts (.codeWith yL_inTimed cL_inTimed 6 (some .int) [(0, 12, 15, 13)]) (by unfold wsL_inTimed; exact List.mem_cons_self))
  have hl := lv_entry ([.ref (ad 0), .int i, .int el, .int wh, .ref oa]) (n := 6) (Nat.le_of_ble_eq_true rfl)
  rw [lg_entry_eq]
  generalize (lg_sl ([.ref (ad 0), .int i, .int el, .int wh, .ref oa]) ++ List.replicate (6 - (lg_sl ([.ref (ad 0), .int i, .int el, .int wh, .ref oa])).length) Slot.unset).toArray = ls at hl ⊢
  have hl : lv_has ls 6 [(0, .ref (ad 0)), (1, .int i), (2, .int el), (3, .int wh), (4, .ref oa)] := hl
  refine g_start hPr (fun H locs hG => ?_)
  refine lv_aload hx hb dL_inTimed_0 (lv_at hl 4 rfl) ?_
  refine lv_iconst (v := 0) hx hb dL_inTimed_2 (by decide) ?_
  refine lv_aload_n hx hb dL_inTimed_3 rfl (lv_at hl 0 rfl) ?_
  refine lv_iload_n hx hb dL_inTimed_4 rfl (lv_at hl 1 rfl) ?_
  refine lv_iload_n hx hb dL_inTimed_5 rfl (lv_at hl 2 rfl) ?_
  refine lv_iload_n hx hb dL_inTimed_6 rfl (lv_at hl 3 rfl) ?_
  refine g_xi (vx_runV (As := [.int i, .int el, .int wh]) (rest := [.int 0, .ref oa]) ⟨hx, hb, hml, hown, hts⟩ (c_inTimed l G base hl0 hR (i := i) (el := el) (wh := wh)) (cwV 3 hts gL_inTimed_X2_inTimed rfl rfl rfl (by decide +kernel) ⟨(Nat.le_of_ble_eq_true rfl), (Nat.le_of_ble_eq_true rfl)⟩) (g_px2 hK hX hG hLx hKx) rfl rfl hl.1 rfl (lv_room (Nat.le_of_ble_eq_true rfl)) dL_inTimed_7 ⟨(Nat.le_of_ble_eq_true rfl), (Nat.le_of_ble_eq_true rfl)⟩) hG (fun E ce q9 H locs hpx hG hce hcv hcl => ?_) (fun y1 u H locs hp hG => ?_)
  · obtain ⟨rfl, h1⟩ := hpx
    refine vx_catch (own := RL) (name := "java/lang/IndexOutOfBoundsException") hown ([] : List ExceptionTableEntry) (⟨0, 12, 15, 13⟩ : ExceptionTableEntry) ([] : List ExceptionTableEntry) (by rw [htab]; rfl) (fun z hz => nomatch hz) (by decide) (by decide) (hts (.classLink RL 13 "java/lang/IndexOutOfBoundsException") (by decide +kernel)) (va_Nw.use rfl hN.1.1) hce hcv hcl ?_
    refine lv_astore (lv' := [(5, .ref q9), (0, .ref (ad 0)), (1, .int i), (2, .int el), (3, .int wh), (4, .ref oa)]) hx hb dL_inTimed_15 hl (by decide) rfl (fun ls hl => ?_)
    refine lv_iconst (v := 1) hx hb dL_inTimed_17 (by decide) ?_
    refine W.widen (k := 12) (n := 100) (by omega) (by omega) ?_
    exact W.iret (v := 1) hx hb hr (fun t9 h9 hW9 => ⟨⟨1, ((L, K, n, rI, rJ, rQ, fI, fR), ad, α), rfl, ⟨1, rfl, stpO_id (StpX.rf hR), Or.inr ⟨rfl, ⟨rfl, h1⟩⟩⟩, hG.at h9⟩, hG.2.2.1.F h9⟩) hG.2.2.1.2.2 dL_inTimed_18
    -- 
  obtain ⟨r, ee⟩ := u
  obtain ⟨⟨hr6, hri⟩, ⟨he32, hei⟩, hwh, hx1⟩ := hp
  replace hx1 : y1 = timA (a_M α r ee) wh := hx1
  subst hx1
  have hSt : StpX (L, K, n, rI, rJ, rQ, fI, fR) ad α (L, K, n, rI, rJ, rQ, fI, fR) ad α := StpX.rf hR
  have hko := hSt.2.1 oa hLo
  have hLo1 : oa ∈ L := hko.1
  have hKo1 : K oa = 5 := hko.2.1.trans hKo
  have hno1 : n oa = 1 := hko.2.2.1.trans hno
  refine lv_i2l hx hb dL_inTimed_10 rfl ?_
  refine g_last hx hb hK hG hLo1 hKo1 (0) rfl (by rw [hno1]; decide) (by rw [hno1]; decide) dL_inTimed_11 (fun H locs hG => ?_)
  refine lv_goto (tgt := 19) hx hb dL_inTimed_12 (by decide) ?_
  refine lv_iconst (v := 0) hx hb dL_inTimed_19 (by decide) ?_
  refine W.widen (k := 12) (n := 100) (by omega) (by omega) ?_
  exact W.iret (v := 0) hx hb hr (fun t9 h9 hW9 => ⟨⟨0, ((L, K, n, rI, g_up rJ oa 0 (((timA (a_M α r ee) wh)).toInt64), rQ, fI, fR), ad, α), rfl, ⟨0, rfl, stpO_of hSt hLo hio, Or.inl ⟨rfl, ⟨r, ee, hr6, hri, he32, hei, hwh, g_up_at _ _ _ _⟩, rfl⟩⟩, hG.at h9⟩, hG.2.2.1.F h9⟩) hG.2.2.1.2.2 dL_inTimed_20
set_option maxHeartbeats 4000000 in
set_option maxRecDepth 100000 in
/-- the law's seen -/
theorem w_seen (l : Launch) (G : gG) (base : Nat) {L : List Nat} {K n : Nat → Nat} {rI : Nat → Nat → Int32} {rJ : Nat → Nat → Int64} {rQ : Nat → Nat → Option Nat} {fI : Nat → Nat → Int32} {fR : Nat → Nat → Option Nat} (hl0 : l.stackTraces = false) {ad : Nat → Nat} {α : aT} (hR : RepX (L, K, n, rI, rJ, rQ, fI, fR) ad α) {oa : Nat} (hLo : oa ∈ L) (hKo : K oa = 5) (hno : n oa = 1) (hio : ¬ inX ad (a_nd α) oa) {i j wh : Int32} : Met l yL_seen wsL_seen ({ frames := 8, cells := 12, slots := 100, locals := 139 }) (va_Pc [.ref (ad 0), .int i, .int j, .int wh, .ref oa] (g_Py G base (L, K, n, rI, rJ, rQ, fI, fR))) (wQ G base (L, K, n, rI, rJ, rQ, fI, fR) ad α oa (fun c y9 a9 => (c = 0 ∧ (∃ r qq, r < 6 ∧ i = nI r ∧ qq < 6 ∧ j = nI qq ∧ okI wh 3 ∧ y9 = (nI (seeW (seeF (seA α r qq) (a_num α) (a_cnt α)) wh)).toInt64) ∧ a9 = α) ∨ (a9 = α ∧ ((c = 1 ∧ ¬ (okI i 6 ∧ okI j 6 ∧ okI wh 3)))))) 12 100 (g_A base) := by
  have hDk : isDk L K n fR (ad 0) (ad 1) (ad 2) (ad 3) (ad 35) (ad 4) := hR.1.2.2.1
  have hD : isDt L K n fR (ad 3) (ad 5) (ad 6) (ad 7) (ad 8) (ad 9) (ad 10) := hR.1.2.2.2.1
  have hcnt : fI (ad 3) 6 = nI (a_cnt α) := hR.2.2.2.1.1
  have hmc : fI (ad 0) 5 = nI (a_nd α) := hR.2.1
  have hnd : a_nd α ≤ 250 := hR.1.1
  have hc250 : a_cnt α ≤ 250 := Nat.le_trans hR.2.2.1 hnd
  have hDk0 := hDk
  obtain ⟨hLx, hKx, h0x, h1x, h2x, h3x, h4x, hLra, hKra, hnra, hLma, hKma, hnma, hLod, hKod, hnod⟩ := hDk0
  have hD0 := hD
  obtain ⟨hLd, hKd, h0d, h1d, h2d, h3d, h4d, h5d, hLdr, hKdr, hndr, hLdn, hKdn, hndn, hLdk, hKdk, hndk, hLdp, hKdp, hndp, hLdv, hKdv, hndv, hLdg, hKdg, hndg⟩ := hD0
  refine met_ofWH (cc := cL_seen) (maxL := 6) (ret := (some .int)) (hh := [(0, 12, 15, 13)]) (by decide) rfl ?_
  intro p e s m args below meth c s₁ B hml hv
  obtain ⟨rfl, ⟨hPr, hX⟩, hN⟩ := hv
  have hx := B.exec
  have hb := B.bytes
  have hr := B.returns
  have hts := atoms_spec (ws := wsL_seen) B.pre
  have hown : s.vm.findClass RL = some m.cls := findClass_of_methodNamed B.named
  have hlocks := B.notSynchronized
  have hin : meth.name = "seen" := (name_of_methodNamed B.named B.method).1
  have hK := hPr.2.2
  have hG := hPr.gw
  have htab := vx_table (x := yL_seen) B (hts (.codeWith yL_seen cL_seen 6 (some .int) [(0, 12, 15, 13)]) (by unfold wsL_seen; exact List.mem_cons_self))
  have hl := lv_entry ([.ref (ad 0), .int i, .int j, .int wh, .ref oa]) (n := 6) (Nat.le_of_ble_eq_true rfl)
  rw [lg_entry_eq]
  generalize (lg_sl ([.ref (ad 0), .int i, .int j, .int wh, .ref oa]) ++ List.replicate (6 - (lg_sl ([.ref (ad 0), .int i, .int j, .int wh, .ref oa])).length) Slot.unset).toArray = ls at hl ⊢
  have hl : lv_has ls 6 [(0, .ref (ad 0)), (1, .int i), (2, .int j), (3, .int wh), (4, .ref oa)] := hl
  refine g_start hPr (fun H locs hG => ?_)
  refine lv_aload hx hb dL_seen_0 (lv_at hl 4 rfl) ?_
  refine lv_iconst (v := 0) hx hb dL_seen_2 (by decide) ?_
  refine lv_aload_n hx hb dL_seen_3 rfl (lv_at hl 0 rfl) ?_
  refine lv_iload_n hx hb dL_seen_4 rfl (lv_at hl 1 rfl) ?_
  refine lv_iload_n hx hb dL_seen_5 rfl (lv_at hl 2 rfl) ?_
  refine lv_iload_n hx hb dL_seen_6 rfl (lv_at hl 3 rfl) ?_
  refine g_xi (vx_runV (As := [.int i, .int j, .int wh]) (rest := [.int 0, .ref oa]) ⟨hx, hb, hml, hown, hts⟩ (c_seen l G base hl0 hR (i := i) (j := j) (wh := wh)) (cwV 3 hts gL_seen_X2_seen rfl rfl rfl (by decide +kernel) ⟨(Nat.le_of_ble_eq_true rfl), (Nat.le_of_ble_eq_true rfl)⟩) (g_px2 hK hX hG hLx hKx) rfl rfl hl.1 rfl (lv_room (Nat.le_of_ble_eq_true rfl)) dL_seen_7 ⟨(Nat.le_of_ble_eq_true rfl), (Nat.le_of_ble_eq_true rfl)⟩) hG (fun E ce q9 H locs hpx hG hce hcv hcl => ?_) (fun y1 u H locs hp hG => ?_)
  · obtain ⟨rfl, h1⟩ := hpx
    refine vx_catch (own := RL) (name := "java/lang/IndexOutOfBoundsException") hown ([] : List ExceptionTableEntry) (⟨0, 12, 15, 13⟩ : ExceptionTableEntry) ([] : List ExceptionTableEntry) (by rw [htab]; rfl) (fun z hz => nomatch hz) (by decide) (by decide) (hts (.classLink RL 13 "java/lang/IndexOutOfBoundsException") (by decide +kernel)) (va_Nw.use rfl hN.1.1) hce hcv hcl ?_
    refine lv_astore (lv' := [(5, .ref q9), (0, .ref (ad 0)), (1, .int i), (2, .int j), (3, .int wh), (4, .ref oa)]) hx hb dL_seen_15 hl (by decide) rfl (fun ls hl => ?_)
    refine lv_iconst (v := 1) hx hb dL_seen_17 (by decide) ?_
    refine W.widen (k := 12) (n := 100) (by omega) (by omega) ?_
    exact W.iret (v := 1) hx hb hr (fun t9 h9 hW9 => ⟨⟨1, ((L, K, n, rI, rJ, rQ, fI, fR), ad, α), rfl, ⟨1, rfl, stpO_id (StpX.rf hR), Or.inr ⟨rfl, ⟨rfl, h1⟩⟩⟩, hG.at h9⟩, hG.2.2.1.F h9⟩) hG.2.2.1.2.2 dL_seen_18
    -- 
  obtain ⟨r, qq⟩ := u
  obtain ⟨⟨hr6, hri⟩, ⟨hq6, hqi⟩, hwh, hx1⟩ := hp
  replace hx1 : y1 = (nI (seeW (seeF (seA α r qq) (a_num α) (a_cnt α)) wh)) := hx1
  subst hx1
  have hSt : StpX (L, K, n, rI, rJ, rQ, fI, fR) ad α (L, K, n, rI, rJ, rQ, fI, fR) ad α := StpX.rf hR
  have hko := hSt.2.1 oa hLo
  have hLo1 : oa ∈ L := hko.1
  have hKo1 : K oa = 5 := hko.2.1.trans hKo
  have hno1 : n oa = 1 := hko.2.2.1.trans hno
  refine lv_i2l hx hb dL_seen_10 rfl ?_
  refine g_last hx hb hK hG hLo1 hKo1 (0) rfl (by rw [hno1]; decide) (by rw [hno1]; decide) dL_seen_11 (fun H locs hG => ?_)
  refine lv_goto (tgt := 19) hx hb dL_seen_12 (by decide) ?_
  refine lv_iconst (v := 0) hx hb dL_seen_19 (by decide) ?_
  refine W.widen (k := 12) (n := 100) (by omega) (by omega) ?_
  exact W.iret (v := 0) hx hb hr (fun t9 h9 hW9 => ⟨⟨0, ((L, K, n, rI, g_up rJ oa 0 (((nI (seeW (seeF (seA α r qq) (a_num α) (a_cnt α)) wh))).toInt64), rQ, fI, fR), ad, α), rfl, ⟨0, rfl, stpO_of hSt hLo hio, Or.inl ⟨rfl, ⟨r, qq, hr6, hri, hq6, hqi, hwh, g_up_at _ _ _ _⟩, rfl⟩⟩, hG.at h9⟩, hG.2.2.1.F h9⟩) hG.2.2.1.2.2 dL_seen_20
set_option maxHeartbeats 4000000 in
set_option maxRecDepth 100000 in
/-- the law's size -/
theorem w_size (l : Launch) (G : gG) (base : Nat) {L : List Nat} {K n : Nat → Nat} {rI : Nat → Nat → Int32} {rJ : Nat → Nat → Int64} {rQ : Nat → Nat → Option Nat} {fI : Nat → Nat → Int32} {fR : Nat → Nat → Option Nat} (hl0 : l.stackTraces = false) {ad : Nat → Nat} {α : aT} (hR : RepX (L, K, n, rI, rJ, rQ, fI, fR) ad α) {oa : Nat} (hLo : oa ∈ L) (hKo : K oa = 5) (hno : n oa = 1) (hio : ¬ inX ad (a_nd α) oa) {i wh : Int32} : Met l yL_size wsL_size ({ frames := 8, cells := 12, slots := 100, locals := 134 }) (va_Pc [.ref (ad 0), .int i, .int wh, .ref oa] (g_Py G base (L, K, n, rI, rJ, rQ, fI, fR))) (wQ G base (L, K, n, rI, rJ, rQ, fI, fR) ad α oa (fun c y9 a9 => (c = 0 ∧ (∃ u, szK (a_nd α) i u ∧ okI wh 2 ∧ y9 = (nI (cntN (if wh = 0 then a_L α u else a_S α u) 256)).toInt64) ∧ a9 = α) ∨ (a9 = α ∧ ((c = 1 ∧ (¬ (∃ k, szK (a_nd α) i k) ∨ ¬ okI wh 2)))))) 12 100 (g_A base) := by
  have hDk : isDk L K n fR (ad 0) (ad 1) (ad 2) (ad 3) (ad 35) (ad 4) := hR.1.2.2.1
  have hD : isDt L K n fR (ad 3) (ad 5) (ad 6) (ad 7) (ad 8) (ad 9) (ad 10) := hR.1.2.2.2.1
  have hcnt : fI (ad 3) 6 = nI (a_cnt α) := hR.2.2.2.1.1
  have hmc : fI (ad 0) 5 = nI (a_nd α) := hR.2.1
  have hnd : a_nd α ≤ 250 := hR.1.1
  have hc250 : a_cnt α ≤ 250 := Nat.le_trans hR.2.2.1 hnd
  have hDk0 := hDk
  obtain ⟨hLx, hKx, h0x, h1x, h2x, h3x, h4x, hLra, hKra, hnra, hLma, hKma, hnma, hLod, hKod, hnod⟩ := hDk0
  have hD0 := hD
  obtain ⟨hLd, hKd, h0d, h1d, h2d, h3d, h4d, h5d, hLdr, hKdr, hndr, hLdn, hKdn, hndn, hLdk, hKdk, hndk, hLdp, hKdp, hndp, hLdv, hKdv, hndv, hLdg, hKdg, hndg⟩ := hD0
  refine met_ofWH (cc := cL_size) (maxL := 5) (ret := (some .int)) (hh := [(0, 10, 13, 13)]) (by decide) rfl ?_
  intro p e s m args below meth c s₁ B hml hv
  obtain ⟨rfl, ⟨hPr, hX⟩, hN⟩ := hv
  have hx := B.exec
  have hb := B.bytes
  have hr := B.returns
  have hts := atoms_spec (ws := wsL_size) B.pre
  have hown : s.vm.findClass RL = some m.cls := findClass_of_methodNamed B.named
  have hlocks := B.notSynchronized
  have hin : meth.name = "size" := (name_of_methodNamed B.named B.method).1
  have hK := hPr.2.2
  have hG := hPr.gw
  have htab := vx_table (x := yL_size) B (hts (.codeWith yL_size cL_size 5 (some .int) [(0, 10, 13, 13)]) (by unfold wsL_size; exact List.mem_cons_self))
  have hl := lv_entry ([.ref (ad 0), .int i, .int wh, .ref oa]) (n := 5) (Nat.le_of_ble_eq_true rfl)
  rw [lg_entry_eq]
  generalize (lg_sl ([.ref (ad 0), .int i, .int wh, .ref oa]) ++ List.replicate (5 - (lg_sl ([.ref (ad 0), .int i, .int wh, .ref oa])).length) Slot.unset).toArray = ls at hl ⊢
  have hl : lv_has ls 5 [(0, .ref (ad 0)), (1, .int i), (2, .int wh), (3, .ref oa)] := hl
  refine g_start hPr (fun H locs hG => ?_)
  refine lv_aload_n hx hb dL_size_0 rfl (lv_at hl 3 rfl) ?_
  refine lv_iconst (v := 0) hx hb dL_size_1 (by decide) ?_
  refine lv_aload_n hx hb dL_size_2 rfl (lv_at hl 0 rfl) ?_
  refine lv_iload_n hx hb dL_size_3 rfl (lv_at hl 1 rfl) ?_
  refine lv_iload_n hx hb dL_size_4 rfl (lv_at hl 2 rfl) ?_
  refine g_xi (vx_runV (As := [.int i, .int wh]) (rest := [.int 0, .ref oa]) ⟨hx, hb, hml, hown, hts⟩ (c_size l G base hl0 hR (i := i) (wh := wh)) (cwV 2 hts gL_size_X2_size rfl rfl rfl (by decide +kernel) ⟨(Nat.le_of_ble_eq_true rfl), (Nat.le_of_ble_eq_true rfl)⟩) (g_px2 hK hX hG hLx hKx) rfl rfl hl.1 rfl (lv_room (Nat.le_of_ble_eq_true rfl)) dL_size_5 ⟨(Nat.le_of_ble_eq_true rfl), (Nat.le_of_ble_eq_true rfl)⟩) hG (fun E ce q9 H locs hpx hG hce hcv hcl => ?_) (fun y1 u H locs hp hG => ?_)
  · obtain ⟨rfl, h1⟩ := hpx
    refine vx_catch (own := RL) (name := "java/lang/IndexOutOfBoundsException") hown ([] : List ExceptionTableEntry) (⟨0, 10, 13, 13⟩ : ExceptionTableEntry) ([] : List ExceptionTableEntry) (by rw [htab]; rfl) (fun z hz => nomatch hz) (by decide) (by decide) (hts (.classLink RL 13 "java/lang/IndexOutOfBoundsException") (by decide +kernel)) (va_Nw.use rfl hN.1.1) hce hcv hcl ?_
    refine lv_astore (lv' := [(4, .ref q9), (0, .ref (ad 0)), (1, .int i), (2, .int wh), (3, .ref oa)]) hx hb dL_size_13 hl (by decide) rfl (fun ls hl => ?_)
    refine lv_iconst (v := 1) hx hb dL_size_15 (by decide) ?_
    refine W.widen (k := 12) (n := 100) (by omega) (by omega) ?_
    exact W.iret (v := 1) hx hb hr (fun t9 h9 hW9 => ⟨⟨1, ((L, K, n, rI, rJ, rQ, fI, fR), ad, α), rfl, ⟨1, rfl, stpO_id (StpX.rf hR), Or.inr ⟨rfl, ⟨rfl, h1⟩⟩⟩, hG.at h9⟩, hG.2.2.1.F h9⟩) hG.2.2.1.2.2 dL_size_16
    -- 
  obtain ⟨hsz, hwh, hx1⟩ := hp
  subst hx1
  have hSt : StpX (L, K, n, rI, rJ, rQ, fI, fR) ad α (L, K, n, rI, rJ, rQ, fI, fR) ad α := StpX.rf hR
  have hko := hSt.2.1 oa hLo
  have hLo1 : oa ∈ L := hko.1
  have hKo1 : K oa = 5 := hko.2.1.trans hKo
  have hno1 : n oa = 1 := hko.2.2.1.trans hno
  refine lv_i2l hx hb dL_size_8 rfl ?_
  refine g_last hx hb hK hG hLo1 hKo1 (0) rfl (by rw [hno1]; decide) (by rw [hno1]; decide) dL_size_9 (fun H locs hG => ?_)
  refine lv_goto (tgt := 17) hx hb dL_size_10 (by decide) ?_
  refine lv_iconst (v := 0) hx hb dL_size_17 (by decide) ?_
  refine W.widen (k := 12) (n := 100) (by omega) (by omega) ?_
  exact W.iret (v := 0) hx hb hr (fun t9 h9 hW9 => ⟨⟨0, ((L, K, n, rI, g_up rJ oa 0 (((nI (cntN (if wh = 0 then a_L α u else a_S α u) 256))).toInt64), rQ, fI, fR), ad, α), rfl, ⟨0, rfl, stpO_of hSt hLo hio, Or.inl ⟨rfl, ⟨u, hsz, hwh, g_up_at _ _ _ _⟩, rfl⟩⟩, hG.at h9⟩, hG.2.2.1.F h9⟩) hG.2.2.1.2.2 dL_size_18
set_option maxHeartbeats 4000000 in
set_option maxRecDepth 100000 in
/-- the law's same -/
theorem w_same (l : Launch) (G : gG) (base : Nat) {L : List Nat} {K n : Nat → Nat} {rI : Nat → Nat → Int32} {rJ : Nat → Nat → Int64} {rQ : Nat → Nat → Option Nat} {fI : Nat → Nat → Int32} {fR : Nat → Nat → Option Nat} (hl0 : l.stackTraces = false) {ad : Nat → Nat} {α : aT} (hR : RepX (L, K, n, rI, rJ, rQ, fI, fR) ad α) {oa : Nat} (hLo : oa ∈ L) (hKo : K oa = 5) (hno : n oa = 1) (hio : ¬ inX ad (a_nd α) oa) {i j : Int32} : Met l yL_same wsL_same ({ frames := 8, cells := 12, slots := 100, locals := 134 }) (va_Pc [.ref (ad 0), .int i, .int j, .ref oa] (g_Py G base (L, K, n, rI, rJ, rQ, fI, fR))) (wQ G base (L, K, n, rI, rJ, rQ, fI, fR) ad α oa (fun c y9 a9 => (c = 0 ∧ (∃ r d cg, r < 6 ∧ i = nI r ∧ d < 6 ∧ j = nI d ∧ y9 = (bi cg).toInt64 ∧ (cg = true ↔ sEq α α r d)) ∧ a9 = α) ∨ (a9 = α ∧ ((c = 1 ∧ ¬ (okI i 6 ∧ okI j 6)))))) 12 100 (g_A base) := by
  have hDk : isDk L K n fR (ad 0) (ad 1) (ad 2) (ad 3) (ad 35) (ad 4) := hR.1.2.2.1
  have hD : isDt L K n fR (ad 3) (ad 5) (ad 6) (ad 7) (ad 8) (ad 9) (ad 10) := hR.1.2.2.2.1
  have hcnt : fI (ad 3) 6 = nI (a_cnt α) := hR.2.2.2.1.1
  have hmc : fI (ad 0) 5 = nI (a_nd α) := hR.2.1
  have hnd : a_nd α ≤ 250 := hR.1.1
  have hc250 : a_cnt α ≤ 250 := Nat.le_trans hR.2.2.1 hnd
  have hDk0 := hDk
  obtain ⟨hLx, hKx, h0x, h1x, h2x, h3x, h4x, hLra, hKra, hnra, hLma, hKma, hnma, hLod, hKod, hnod⟩ := hDk0
  have hD0 := hD
  obtain ⟨hLd, hKd, h0d, h1d, h2d, h3d, h4d, h5d, hLdr, hKdr, hndr, hLdn, hKdn, hndn, hLdk, hKdk, hndk, hLdp, hKdp, hndp, hLdv, hKdv, hndv, hLdg, hKdg, hndg⟩ := hD0
  refine met_ofWH (cc := cL_same) (maxL := 5) (ret := (some .int)) (hh := [(0, 10, 13, 13)]) (by decide) rfl ?_
  intro p e s m args below meth c s₁ B hml hv
  obtain ⟨rfl, ⟨hPr, hX⟩, hN⟩ := hv
  have hx := B.exec
  have hb := B.bytes
  have hr := B.returns
  have hts := atoms_spec (ws := wsL_same) B.pre
  have hown : s.vm.findClass RL = some m.cls := findClass_of_methodNamed B.named
  have hlocks := B.notSynchronized
  have hin : meth.name = "same" := (name_of_methodNamed B.named B.method).1
  have hK := hPr.2.2
  have hG := hPr.gw
  have htab := vx_table (x := yL_same) B (hts (.codeWith yL_same cL_same 5 (some .int) [(0, 10, 13, 13)]) (by unfold wsL_same; exact List.mem_cons_self))
  have hl := lv_entry ([.ref (ad 0), .int i, .int j, .ref oa]) (n := 5) (Nat.le_of_ble_eq_true rfl)
  rw [lg_entry_eq]
  generalize (lg_sl ([.ref (ad 0), .int i, .int j, .ref oa]) ++ List.replicate (5 - (lg_sl ([.ref (ad 0), .int i, .int j, .ref oa])).length) Slot.unset).toArray = ls at hl ⊢
  have hl : lv_has ls 5 [(0, .ref (ad 0)), (1, .int i), (2, .int j), (3, .ref oa)] := hl
  refine g_start hPr (fun H locs hG => ?_)
  refine lv_aload_n hx hb dL_same_0 rfl (lv_at hl 3 rfl) ?_
  refine lv_iconst (v := 0) hx hb dL_same_1 (by decide) ?_
  refine lv_aload_n hx hb dL_same_2 rfl (lv_at hl 0 rfl) ?_
  refine lv_iload_n hx hb dL_same_3 rfl (lv_at hl 1 rfl) ?_
  refine lv_iload_n hx hb dL_same_4 rfl (lv_at hl 2 rfl) ?_
  refine g_xi (vx_runV (As := [.int i, .int j]) (rest := [.int 0, .ref oa]) ⟨hx, hb, hml, hown, hts⟩ (c_same l G base hl0 hR (i := i) (j := j)) (cwV 2 hts gL_same_X2_same rfl rfl rfl (by decide +kernel) ⟨(Nat.le_of_ble_eq_true rfl), (Nat.le_of_ble_eq_true rfl)⟩) (g_px2 hK hX hG hLx hKx) rfl rfl hl.1 rfl (lv_room (Nat.le_of_ble_eq_true rfl)) dL_same_5 ⟨(Nat.le_of_ble_eq_true rfl), (Nat.le_of_ble_eq_true rfl)⟩) hG (fun E ce q9 H locs hpx hG hce hcv hcl => ?_) (fun y1 u H locs hp hG => ?_)
  · obtain ⟨rfl, h1⟩ := hpx
    refine vx_catch (own := RL) (name := "java/lang/IndexOutOfBoundsException") hown ([] : List ExceptionTableEntry) (⟨0, 10, 13, 13⟩ : ExceptionTableEntry) ([] : List ExceptionTableEntry) (by rw [htab]; rfl) (fun z hz => nomatch hz) (by decide) (by decide) (hts (.classLink RL 13 "java/lang/IndexOutOfBoundsException") (by decide +kernel)) (va_Nw.use rfl hN.1.1) hce hcv hcl ?_
    refine lv_astore (lv' := [(4, .ref q9), (0, .ref (ad 0)), (1, .int i), (2, .int j), (3, .ref oa)]) hx hb dL_same_13 hl (by decide) rfl (fun ls hl => ?_)
    refine lv_iconst (v := 1) hx hb dL_same_15 (by decide) ?_
    refine W.widen (k := 12) (n := 100) (by omega) (by omega) ?_
    exact W.iret (v := 1) hx hb hr (fun t9 h9 hW9 => ⟨⟨1, ((L, K, n, rI, rJ, rQ, fI, fR), ad, α), rfl, ⟨1, rfl, stpO_id (StpX.rf hR), Or.inr ⟨rfl, ⟨rfl, h1⟩⟩⟩, hG.at h9⟩, hG.2.2.1.F h9⟩) hG.2.2.1.2.2 dL_same_16
    -- 
  obtain ⟨r, d, cg⟩ := u
  obtain ⟨⟨hr6, hri⟩, ⟨hd6, hdi⟩, hx1, hcg⟩ := hp
  replace hx1 : y1 = bi cg := hx1
  subst hx1
  have hSt : StpX (L, K, n, rI, rJ, rQ, fI, fR) ad α (L, K, n, rI, rJ, rQ, fI, fR) ad α := StpX.rf hR
  have hko := hSt.2.1 oa hLo
  have hLo1 : oa ∈ L := hko.1
  have hKo1 : K oa = 5 := hko.2.1.trans hKo
  have hno1 : n oa = 1 := hko.2.2.1.trans hno
  refine lv_i2l hx hb dL_same_8 rfl ?_
  refine g_last hx hb hK hG hLo1 hKo1 (0) rfl (by rw [hno1]; decide) (by rw [hno1]; decide) dL_same_9 (fun H locs hG => ?_)
  refine lv_goto (tgt := 17) hx hb dL_same_10 (by decide) ?_
  refine lv_iconst (v := 0) hx hb dL_same_17 (by decide) ?_
  refine W.widen (k := 12) (n := 100) (by omega) (by omega) ?_
  exact W.iret (v := 0) hx hb hr (fun t9 h9 hW9 => ⟨⟨0, ((L, K, n, rI, g_up rJ oa 0 (((bi cg)).toInt64), rQ, fI, fR), ad, α), rfl, ⟨0, rfl, stpO_of hSt hLo hio, Or.inl ⟨rfl, ⟨r, d, cg, hr6, hri, hd6, hdi, g_up_at _ _ _ _, hcg⟩, rfl⟩⟩, hG.at h9⟩, hG.2.2.1.F h9⟩) hG.2.2.1.2.2 dL_same_18
set_option maxHeartbeats 4000000 in
set_option maxRecDepth 100000 in
/-- the law's below -/
theorem w_below (l : Launch) (G : gG) (base : Nat) {L : List Nat} {K n : Nat → Nat} {rI : Nat → Nat → Int32} {rJ : Nat → Nat → Int64} {rQ : Nat → Nat → Option Nat} {fI : Nat → Nat → Int32} {fR : Nat → Nat → Option Nat} (hl0 : l.stackTraces = false) {ad : Nat → Nat} {α : aT} (hR : RepX (L, K, n, rI, rJ, rQ, fI, fR) ad α) {oa : Nat} (hLo : oa ∈ L) (hKo : K oa = 5) (hno : n oa = 1) (hio : ¬ inX ad (a_nd α) oa) {i j : Int32} : Met l yL_below wsL_below ({ frames := 8, cells := 12, slots := 100, locals := 134 }) (va_Pc [.ref (ad 0), .int i, .int j, .ref oa] (g_Py G base (L, K, n, rI, rJ, rQ, fI, fR))) (wQ G base (L, K, n, rI, rJ, rQ, fI, fR) ad α oa (fun c y9 a9 => (c = 0 ∧ ∃ r d cg, r < 6 ∧ i = nI r ∧ d < 6 ∧ j = nI d ∧ y9 = (bi cg).toInt64 ∧ (cg = true ↔ sEq (aJoin (aCopy α 6 d) 6 r) (aCopy α 6 d) 6 6) ∧ a9 = aJoin (aCopy α 6 d) 6 r) ∨ (a9 = α ∧ ((c = 1 ∧ ¬ (okI i 6 ∧ okI j 6)))))) 12 100 (g_A base) := by
  have hDk : isDk L K n fR (ad 0) (ad 1) (ad 2) (ad 3) (ad 35) (ad 4) := hR.1.2.2.1
  have hD : isDt L K n fR (ad 3) (ad 5) (ad 6) (ad 7) (ad 8) (ad 9) (ad 10) := hR.1.2.2.2.1
  have hcnt : fI (ad 3) 6 = nI (a_cnt α) := hR.2.2.2.1.1
  have hmc : fI (ad 0) 5 = nI (a_nd α) := hR.2.1
  have hnd : a_nd α ≤ 250 := hR.1.1
  have hc250 : a_cnt α ≤ 250 := Nat.le_trans hR.2.2.1 hnd
  have hDk0 := hDk
  obtain ⟨hLx, hKx, h0x, h1x, h2x, h3x, h4x, hLra, hKra, hnra, hLma, hKma, hnma, hLod, hKod, hnod⟩ := hDk0
  have hD0 := hD
  obtain ⟨hLd, hKd, h0d, h1d, h2d, h3d, h4d, h5d, hLdr, hKdr, hndr, hLdn, hKdn, hndn, hLdk, hKdk, hndk, hLdp, hKdp, hndp, hLdv, hKdv, hndv, hLdg, hKdg, hndg⟩ := hD0
  refine met_ofWH (cc := cL_below) (maxL := 5) (ret := (some .int)) (hh := [(0, 10, 13, 13)]) (by decide) rfl ?_
  intro p e s m args below meth c s₁ B hml hv
  obtain ⟨rfl, ⟨hPr, hX⟩, hN⟩ := hv
  have hx := B.exec
  have hb := B.bytes
  have hr := B.returns
  have hts := atoms_spec (ws := wsL_below) B.pre
  have hown : s.vm.findClass RL = some m.cls := findClass_of_methodNamed B.named
  have hlocks := B.notSynchronized
  have hin : meth.name = "below" := (name_of_methodNamed B.named B.method).1
  have hK := hPr.2.2
  have hG := hPr.gw
  have htab := vx_table (x := yL_below) B (hts (.codeWith yL_below cL_below 5 (some .int) [(0, 10, 13, 13)]) (by unfold wsL_below; exact List.mem_cons_self))
  have hl := lv_entry ([.ref (ad 0), .int i, .int j, .ref oa]) (n := 5) (Nat.le_of_ble_eq_true rfl)
  rw [lg_entry_eq]
  generalize (lg_sl ([.ref (ad 0), .int i, .int j, .ref oa]) ++ List.replicate (5 - (lg_sl ([.ref (ad 0), .int i, .int j, .ref oa])).length) Slot.unset).toArray = ls at hl ⊢
  have hl : lv_has ls 5 [(0, .ref (ad 0)), (1, .int i), (2, .int j), (3, .ref oa)] := hl
  refine g_start hPr (fun H locs hG => ?_)
  refine lv_aload_n hx hb dL_below_0 rfl (lv_at hl 3 rfl) ?_
  refine lv_iconst (v := 0) hx hb dL_below_1 (by decide) ?_
  refine lv_aload_n hx hb dL_below_2 rfl (lv_at hl 0 rfl) ?_
  refine lv_iload_n hx hb dL_below_3 rfl (lv_at hl 1 rfl) ?_
  refine lv_iload_n hx hb dL_below_4 rfl (lv_at hl 2 rfl) ?_
  refine g_xi (vx_runV (As := [.int i, .int j]) (rest := [.int 0, .ref oa]) ⟨hx, hb, hml, hown, hts⟩ (c_below l G base hl0 hR (i := i) (j := j)) (cwV 2 hts gL_below_X2_below rfl rfl rfl (by decide +kernel) ⟨(Nat.le_of_ble_eq_true rfl), (Nat.le_of_ble_eq_true rfl)⟩) (g_px2 hK hX hG hLx hKx) rfl rfl hl.1 rfl (lv_room (Nat.le_of_ble_eq_true rfl)) dL_below_5 ⟨(Nat.le_of_ble_eq_true rfl), (Nat.le_of_ble_eq_true rfl)⟩) hG (fun E ce q9 H locs hpx hG hce hcv hcl => ?_) (fun y1 u H locs hp hG => ?_)
  · obtain ⟨rfl, h1⟩ := hpx
    refine vx_catch (own := RL) (name := "java/lang/IndexOutOfBoundsException") hown ([] : List ExceptionTableEntry) (⟨0, 10, 13, 13⟩ : ExceptionTableEntry) ([] : List ExceptionTableEntry) (by rw [htab]; rfl) (fun z hz => nomatch hz) (by decide) (by decide) (hts (.classLink RL 13 "java/lang/IndexOutOfBoundsException") (by decide +kernel)) (va_Nw.use rfl hN.1.1) hce hcv hcl ?_
    refine lv_astore (lv' := [(4, .ref q9), (0, .ref (ad 0)), (1, .int i), (2, .int j), (3, .ref oa)]) hx hb dL_below_13 hl (by decide) rfl (fun ls hl => ?_)
    refine lv_iconst (v := 1) hx hb dL_below_15 (by decide) ?_
    refine W.widen (k := 12) (n := 100) (by omega) (by omega) ?_
    exact W.iret (v := 1) hx hb hr (fun t9 h9 hW9 => ⟨⟨1, ((L, K, n, rI, rJ, rQ, fI, fR), ad, α), rfl, ⟨1, rfl, stpO_id (StpX.rf hR), Or.inr ⟨rfl, ⟨rfl, h1⟩⟩⟩, hG.at h9⟩, hG.2.2.1.F h9⟩) hG.2.2.1.2.2 dL_below_16
    -- 
  obtain ⟨⟨i1, j1, f1⟩, r, d, cg⟩ := u
  replace hG : gw G base s.heap (L, K, n, i1, j1, rQ, f1, fR) H locs := hG
  obtain ⟨⟨hr6, hri⟩, ⟨hd6, hdi⟩, hx1, hcg, hSt⟩ := hp
  replace hx1 : y1 = bi cg := hx1
  subst hx1
  replace hSt : StpX (L, K, n, rI, rJ, rQ, fI, fR) ad α (L, K, n, i1, j1, rQ, f1, fR) ad (aJoin (aCopy α 6 d) 6 r) := hSt
  have hko := hSt.2.1 oa hLo
  have hLo1 : oa ∈ L := hko.1
  have hKo1 : K oa = 5 := hko.2.1.trans hKo
  have hno1 : n oa = 1 := hko.2.2.1.trans hno
  refine lv_i2l hx hb dL_below_8 rfl ?_
  refine g_last hx hb hK hG hLo1 hKo1 (0) rfl (by rw [hno1]; decide) (by rw [hno1]; decide) dL_below_9 (fun H locs hG => ?_)
  refine lv_goto (tgt := 17) hx hb dL_below_10 (by decide) ?_
  refine lv_iconst (v := 0) hx hb dL_below_17 (by decide) ?_
  refine W.widen (k := 12) (n := 100) (by omega) (by omega) ?_
  exact W.iret (v := 0) hx hb hr (fun t9 h9 hW9 => ⟨⟨0, ((L, K, n, i1, g_up j1 oa 0 (((bi cg)).toInt64), rQ, f1, fR), ad, aJoin (aCopy α 6 d) 6 r), rfl, ⟨0, rfl, stpO_of hSt hLo hio, Or.inl ⟨rfl, r, d, cg, hr6, hri, hd6, hdi, g_up_at _ _ _ _, hcg, rfl⟩⟩, hG.at h9⟩, hG.2.2.1.F h9⟩) hG.2.2.1.2.2 dL_below_18
set_option maxHeartbeats 4000000 in
set_option maxRecDepth 100000 in
/-- the law's values -/
theorem w_values (l : Launch) (G : gG) (base : Nat) {L : List Nat} {K n : Nat → Nat} {rI : Nat → Nat → Int32} {rJ : Nat → Nat → Int64} {rQ : Nat → Nat → Option Nat} {fI : Nat → Nat → Int32} {fR : Nat → Nat → Option Nat} (hl0 : l.stackTraces = false) {ad : Nat → Nat} {α : aT} (hR : RepX (L, K, n, rI, rJ, rQ, fI, fR) ad α) {oa : Nat} (hLo : oa ∈ L) (hKo : K oa = 5) (hno : n oa = 1) (hio : ¬ inX ad (a_nd α) oa) {i key : Int32} : Met l yL_values wsL_values ({ frames := 8, cells := 12, slots := 100, locals := 134 }) (va_Pc [.ref (ad 0), .int i, .int key, .ref oa] (g_Py G base (L, K, n, rI, rJ, rQ, fI, fR))) (wQ G base (L, K, n, rI, rJ, rQ, fI, fR) ad α oa (fun c y9 a9 => (c = 0 ∧ ∃ r m2 f2, r < 6 ∧ i = nI r ∧ (okI i 6 ∧ okI key 16) ∧ y9 = (nI m2).toInt64 ∧ OrdA α r key f2 m2 ∧ a9 = α) ∨ (a9 = α ∧ ((c = 1 ∧ ¬ (okI i 6 ∧ okI key 16)))))) 12 100 (g_A base) := by
  have hDk : isDk L K n fR (ad 0) (ad 1) (ad 2) (ad 3) (ad 35) (ad 4) := hR.1.2.2.1
  have hD : isDt L K n fR (ad 3) (ad 5) (ad 6) (ad 7) (ad 8) (ad 9) (ad 10) := hR.1.2.2.2.1
  have hcnt : fI (ad 3) 6 = nI (a_cnt α) := hR.2.2.2.1.1
  have hmc : fI (ad 0) 5 = nI (a_nd α) := hR.2.1
  have hnd : a_nd α ≤ 250 := hR.1.1
  have hc250 : a_cnt α ≤ 250 := Nat.le_trans hR.2.2.1 hnd
  have hDk0 := hDk
  obtain ⟨hLx, hKx, h0x, h1x, h2x, h3x, h4x, hLra, hKra, hnra, hLma, hKma, hnma, hLod, hKod, hnod⟩ := hDk0
  have hD0 := hD
  obtain ⟨hLd, hKd, h0d, h1d, h2d, h3d, h4d, h5d, hLdr, hKdr, hndr, hLdn, hKdn, hndn, hLdk, hKdk, hndk, hLdp, hKdp, hndp, hLdv, hKdv, hndv, hLdg, hKdg, hndg⟩ := hD0
  refine met_ofWH (cc := cL_values) (maxL := 5) (ret := (some .int)) (hh := [(0, 10, 13, 13)]) (by decide) rfl ?_
  intro p e s m args below meth c s₁ B hml hv
  obtain ⟨rfl, ⟨hPr, hX⟩, hN⟩ := hv
  have hx := B.exec
  have hb := B.bytes
  have hr := B.returns
  have hts := atoms_spec (ws := wsL_values) B.pre
  have hown : s.vm.findClass RL = some m.cls := findClass_of_methodNamed B.named
  have hlocks := B.notSynchronized
  have hin : meth.name = "values" := (name_of_methodNamed B.named B.method).1
  have hK := hPr.2.2
  have hG := hPr.gw
  have htab := vx_table (x := yL_values) B (hts (.codeWith yL_values cL_values 5 (some .int) [(0, 10, 13, 13)]) (by unfold wsL_values; exact List.mem_cons_self))
  have hl := lv_entry ([.ref (ad 0), .int i, .int key, .ref oa]) (n := 5) (Nat.le_of_ble_eq_true rfl)
  rw [lg_entry_eq]
  generalize (lg_sl ([.ref (ad 0), .int i, .int key, .ref oa]) ++ List.replicate (5 - (lg_sl ([.ref (ad 0), .int i, .int key, .ref oa])).length) Slot.unset).toArray = ls at hl ⊢
  have hl : lv_has ls 5 [(0, .ref (ad 0)), (1, .int i), (2, .int key), (3, .ref oa)] := hl
  refine g_start hPr (fun H locs hG => ?_)
  refine lv_aload_n hx hb dL_values_0 rfl (lv_at hl 3 rfl) ?_
  refine lv_iconst (v := 0) hx hb dL_values_1 (by decide) ?_
  refine lv_aload_n hx hb dL_values_2 rfl (lv_at hl 0 rfl) ?_
  refine lv_iload_n hx hb dL_values_3 rfl (lv_at hl 1 rfl) ?_
  refine lv_iload_n hx hb dL_values_4 rfl (lv_at hl 2 rfl) ?_
  refine g_xi (vx_runV (As := [.int i, .int key]) (rest := [.int 0, .ref oa]) ⟨hx, hb, hml, hown, hts⟩ (c_values l G base hl0 hR (i := i) (key := key)) (cwV 2 hts gL_values_X2_values rfl rfl rfl (by decide +kernel) ⟨(Nat.le_of_ble_eq_true rfl), (Nat.le_of_ble_eq_true rfl)⟩) (g_px2 hK hX hG hLx hKx) rfl rfl hl.1 rfl (lv_room (Nat.le_of_ble_eq_true rfl)) dL_values_5 ⟨(Nat.le_of_ble_eq_true rfl), (Nat.le_of_ble_eq_true rfl)⟩) hG (fun E ce q9 H locs hpx hG hce hcv hcl => ?_) (fun y1 u H locs hp hG => ?_)
  · obtain ⟨rfl, h1⟩ := hpx
    refine vx_catch (own := RL) (name := "java/lang/IndexOutOfBoundsException") hown ([] : List ExceptionTableEntry) (⟨0, 10, 13, 13⟩ : ExceptionTableEntry) ([] : List ExceptionTableEntry) (by rw [htab]; rfl) (fun z hz => nomatch hz) (by decide) (by decide) (hts (.classLink RL 13 "java/lang/IndexOutOfBoundsException") (by decide +kernel)) (va_Nw.use rfl hN.1.1) hce hcv hcl ?_
    refine lv_astore (lv' := [(4, .ref q9), (0, .ref (ad 0)), (1, .int i), (2, .int key), (3, .ref oa)]) hx hb dL_values_13 hl (by decide) rfl (fun ls hl => ?_)
    refine lv_iconst (v := 1) hx hb dL_values_15 (by decide) ?_
    refine W.widen (k := 12) (n := 100) (by omega) (by omega) ?_
    exact W.iret (v := 1) hx hb hr (fun t9 h9 hW9 => ⟨⟨1, ((L, K, n, rI, rJ, rQ, fI, fR), ad, α), rfl, ⟨1, rfl, stpO_id (StpX.rf hR), Or.inr ⟨rfl, ⟨rfl, h1⟩⟩⟩, hG.at h9⟩, hG.2.2.1.F h9⟩) hG.2.2.1.2.2 dL_values_16
    -- 
  obtain ⟨⟨m2, r2⟩, r⟩ := u
  replace hG : gw G base s.heap (L, K, n, rI, r2, rQ, fI, fR) H locs := hG
  obtain ⟨⟨hr6, hri⟩, hok, hx1, hO, hSt⟩ := hp
  replace hx1 : y1 = nI m2 := hx1
  subst hx1
  replace hSt : StpX (L, K, n, rI, rJ, rQ, fI, fR) ad α (L, K, n, rI, r2, rQ, fI, fR) ad α := hSt
  have hko := hSt.2.1 oa hLo
  have hLo1 : oa ∈ L := hko.1
  have hKo1 : K oa = 5 := hko.2.1.trans hKo
  have hno1 : n oa = 1 := hko.2.2.1.trans hno
  refine lv_i2l hx hb dL_values_8 rfl ?_
  refine g_last hx hb hK hG hLo1 hKo1 (0) rfl (by rw [hno1]; decide) (by rw [hno1]; decide) dL_values_9 (fun H locs hG => ?_)
  refine lv_goto (tgt := 17) hx hb dL_values_10 (by decide) ?_
  refine lv_iconst (v := 0) hx hb dL_values_17 (by decide) ?_
  refine W.widen (k := 12) (n := 100) (by omega) (by omega) ?_
  exact W.iret (v := 0) hx hb hr (fun t9 h9 hW9 => ⟨⟨0, ((L, K, n, rI, g_up r2 oa 0 (((nI m2)).toInt64), rQ, fI, fR), ad, α), rfl, ⟨0, rfl, stpO_of hSt hLo hio, Or.inl ⟨rfl, r, m2, r2 (ad 4), hr6, hri, hok, g_up_at _ _ _ _, hO, rfl⟩⟩, hG.at h9⟩, hG.2.2.1.F h9⟩) hG.2.2.1.2.2 dL_values_18
set_option maxHeartbeats 4000000 in
set_option maxRecDepth 100000 in
/-- the law's value -/
theorem w_value (l : Launch) (G : gG) (base : Nat) {L : List Nat} {K n : Nat → Nat} {rI : Nat → Nat → Int32} {rJ : Nat → Nat → Int64} {rQ : Nat → Nat → Option Nat} {fI : Nat → Nat → Int32} {fR : Nat → Nat → Option Nat} (hl0 : l.stackTraces = false) {ad : Nat → Nat} {α : aT} (hR : RepX (L, K, n, rI, rJ, rQ, fI, fR) ad α) {oa : Nat} (hLo : oa ∈ L) (hKo : K oa = 5) (hno : n oa = 1) (hio : ¬ inX ad (a_nd α) oa) {i key gx : Int32} : Met l yL_value wsL_value ({ frames := 8, cells := 12, slots := 100, locals := 135 }) (va_Pc [.ref (ad 0), .int i, .int key, .int gx, .ref oa] (g_Py G base (L, K, n, rI, rJ, rQ, fI, fR))) (wQ G base (L, K, n, rI, rJ, rQ, fI, fR) ad α oa (fun c y9 a9 => (c = 0 ∧ ∃ r m2 f2 xx, r < 6 ∧ i = nI r ∧ (okI i 6 ∧ okI key 16) ∧ xx < m2 ∧ gx = nI xx ∧ m2 ≤ 250 ∧ y9 = f2 xx ∧ OrdA α r key f2 m2 ∧ a9 = α) ∨ (a9 = α ∧ c = 1 ∧ (¬ (okI i 6 ∧ okI key 16) ∨ ∃ r m2 f2, r < 6 ∧ i = nI r ∧ (okI i 6 ∧ okI key 16) ∧ ¬ okI gx m2 ∧ m2 ≤ 250 ∧ OrdA α r key f2 m2)))) 12 100 (g_A base) := by
  have hDk : isDk L K n fR (ad 0) (ad 1) (ad 2) (ad 3) (ad 35) (ad 4) := hR.1.2.2.1
  have hD : isDt L K n fR (ad 3) (ad 5) (ad 6) (ad 7) (ad 8) (ad 9) (ad 10) := hR.1.2.2.2.1
  have hcnt : fI (ad 3) 6 = nI (a_cnt α) := hR.2.2.2.1.1
  have hmc : fI (ad 0) 5 = nI (a_nd α) := hR.2.1
  have hnd : a_nd α ≤ 250 := hR.1.1
  have hc250 : a_cnt α ≤ 250 := Nat.le_trans hR.2.2.1 hnd
  have hDk0 := hDk
  obtain ⟨hLx, hKx, h0x, h1x, h2x, h3x, h4x, hLra, hKra, hnra, hLma, hKma, hnma, hLod, hKod, hnod⟩ := hDk0
  have hD0 := hD
  obtain ⟨hLd, hKd, h0d, h1d, h2d, h3d, h4d, h5d, hLdr, hKdr, hndr, hLdn, hKdn, hndn, hLdk, hKdk, hndk, hLdp, hKdp, hndp, hLdv, hKdv, hndv, hLdg, hKdg, hndg⟩ := hD0
  refine met_ofWH (cc := cL_value) (maxL := 6) (ret := (some .int)) (hh := [(0, 11, 14, 13)]) (by decide) rfl ?_
  intro p e s m args below meth c s₁ B hml hv
  obtain ⟨rfl, ⟨hPr, hX⟩, hN⟩ := hv
  have hx := B.exec
  have hb := B.bytes
  have hr := B.returns
  have hts := atoms_spec (ws := wsL_value) B.pre
  have hown : s.vm.findClass RL = some m.cls := findClass_of_methodNamed B.named
  have hlocks := B.notSynchronized
  have hin : meth.name = "value" := (name_of_methodNamed B.named B.method).1
  have hK := hPr.2.2
  have hG := hPr.gw
  have htab := vx_table (x := yL_value) B (hts (.codeWith yL_value cL_value 6 (some .int) [(0, 11, 14, 13)]) (by unfold wsL_value; exact List.mem_cons_self))
  have hl := lv_entry ([.ref (ad 0), .int i, .int key, .int gx, .ref oa]) (n := 6) (Nat.le_of_ble_eq_true rfl)
  rw [lg_entry_eq]
  generalize (lg_sl ([.ref (ad 0), .int i, .int key, .int gx, .ref oa]) ++ List.replicate (6 - (lg_sl ([.ref (ad 0), .int i, .int key, .int gx, .ref oa])).length) Slot.unset).toArray = ls at hl ⊢
  have hl : lv_has ls 6 [(0, .ref (ad 0)), (1, .int i), (2, .int key), (3, .int gx), (4, .ref oa)] := hl
  refine g_start hPr (fun H locs hG => ?_)
  refine lv_aload hx hb dL_value_0 (lv_at hl 4 rfl) ?_
  refine lv_iconst (v := 0) hx hb dL_value_2 (by decide) ?_
  refine lv_aload_n hx hb dL_value_3 rfl (lv_at hl 0 rfl) ?_
  refine lv_iload_n hx hb dL_value_4 rfl (lv_at hl 1 rfl) ?_
  refine lv_iload_n hx hb dL_value_5 rfl (lv_at hl 2 rfl) ?_
  refine lv_iload_n hx hb dL_value_6 rfl (lv_at hl 3 rfl) ?_
  refine g_xlS (vx_runV (As := [.int i, .int key, .int gx]) (rest := [.int 0, .ref oa]) ⟨hx, hb, hml, hown, hts⟩ (c_value l G base hl0 hR (i := i) (key := key) (gx := gx)) (cwV 3 hts gL_value_X2_value rfl rfl rfl (by decide +kernel) ⟨(Nat.le_of_ble_eq_true rfl), (Nat.le_of_ble_eq_true rfl)⟩) (g_px2 hK hX hG hLx hKx) rfl rfl hl.1 rfl (lv_room (Nat.le_of_ble_eq_true rfl)) dL_value_7 ⟨(Nat.le_of_ble_eq_true rfl), (Nat.le_of_ble_eq_true rfl)⟩) hG (fun E ce q9 v9 H locs hpx hG hce hcv hcl => ?_) (fun y1 u H locs hp hG => ?_)
  · rcases v9 with _ | ⟨m9, r9, r8⟩
    · replace hpx : E = "java/lang/IndexOutOfBoundsException" ∧ ¬ (okI i 6 ∧ okI key 16) := hpx
      obtain ⟨rfl, h1⟩ := hpx
      replace hG : gw G base s.heap (L, K, n, rI, rJ, rQ, fI, fR) H locs := hG
      refine vx_catch (own := RL) (name := "java/lang/IndexOutOfBoundsException") hown ([] : List ExceptionTableEntry) (⟨0, 11, 14, 13⟩ : ExceptionTableEntry) ([] : List ExceptionTableEntry) (by rw [htab]; rfl) (fun z hz => nomatch hz) (by decide) (by decide) (hts (.classLink RL 13 "java/lang/IndexOutOfBoundsException") (by decide +kernel)) (va_Nw.use rfl hN.1.1) hce hcv hcl ?_
      refine lv_astore (lv' := [(5, .ref q9), (0, .ref (ad 0)), (1, .int i), (2, .int key), (3, .int gx), (4, .ref oa)]) hx hb dL_value_14 hl (by decide) rfl (fun ls hl => ?_)
      refine lv_iconst (v := 1) hx hb dL_value_16 (by decide) ?_
      refine W.widen (k := 12) (n := 100) (by omega) (by omega) ?_
      exact W.iret (v := 1) hx hb hr (fun t9 h9 hW9 => ⟨⟨1, ((L, K, n, rI, rJ, rQ, fI, fR), ad, α), rfl, ⟨1, rfl, stpO_id (StpX.rf hR), Or.inr ⟨rfl, rfl, Or.inl h1⟩⟩, hG.at h9⟩, hG.2.2.1.F h9⟩) hG.2.2.1.2.2 dL_value_17
    · replace hpx : E = "java/lang/IndexOutOfBoundsException" ∧ (r8 < 6 ∧ i = nI r8) ∧ (okI i 6 ∧ okI key 16) ∧ ¬ okI gx m9 ∧ m9 ≤ 250 ∧ OrdA α r8 key (r9 (ad 4)) m9 ∧ StpX (L, K, n, rI, rJ, rQ, fI, fR) ad α (L, K, n, rI, r9, rQ, fI, fR) ad α := hpx
      obtain ⟨rfl, ⟨h1, h2⟩, h3, h4, h5, h6, h7⟩ := hpx
      replace hG : gw G base s.heap (L, K, n, rI, r9, rQ, fI, fR) H locs := hG
      refine vx_catch (own := RL) (name := "java/lang/IndexOutOfBoundsException") hown ([] : List ExceptionTableEntry) (⟨0, 11, 14, 13⟩ : ExceptionTableEntry) ([] : List ExceptionTableEntry) (by rw [htab]; rfl) (fun z hz => nomatch hz) (by decide) (by decide) (hts (.classLink RL 13 "java/lang/IndexOutOfBoundsException") (by decide +kernel)) (va_Nw.use rfl hN.1.1) hce hcv hcl ?_
      refine lv_astore (lv' := [(5, .ref q9), (0, .ref (ad 0)), (1, .int i), (2, .int key), (3, .int gx), (4, .ref oa)]) hx hb dL_value_14 hl (by decide) rfl (fun ls hl => ?_)
      refine lv_iconst (v := 1) hx hb dL_value_16 (by decide) ?_
      refine W.widen (k := 12) (n := 100) (by omega) (by omega) ?_
      exact W.iret (v := 1) hx hb hr (fun t9 h9 hW9 => ⟨⟨1, ((L, K, n, rI, r9, rQ, fI, fR), ad, α), rfl, ⟨1, rfl, stpO_id h7, Or.inr ⟨rfl, rfl, Or.inr ⟨r8, m9, r9 (ad 4), h1, h2, h3, h4, h5, h6⟩⟩⟩, hG.at h9⟩, hG.2.2.1.F h9⟩) hG.2.2.1.2.2 dL_value_17
    -- 
  obtain ⟨⟨⟨m2, r2⟩, r⟩, xx⟩ := u
  replace hG : gw G base s.heap (L, K, n, rI, r2, rQ, fI, fR) H locs := hG
  obtain ⟨⟨hr6, hri⟩, hok, ⟨hxx, hxi⟩, hm2, hx1, hO, hSt⟩ := hp
  replace hx1 : y1 = r2 (ad 4) xx := hx1
  subst hx1
  replace hSt : StpX (L, K, n, rI, rJ, rQ, fI, fR) ad α (L, K, n, rI, r2, rQ, fI, fR) ad α := hSt
  have hko := hSt.2.1 oa hLo
  have hLo1 : oa ∈ L := hko.1
  have hKo1 : K oa = 5 := hko.2.1.trans hKo
  have hno1 : n oa = 1 := hko.2.2.1.trans hno
  refine g_last hx hb hK hG hLo1 hKo1 (0) rfl (by rw [hno1]; decide) (by rw [hno1]; decide) dL_value_10 (fun H locs hG => ?_)
  refine lv_goto (tgt := 18) hx hb dL_value_11 (by decide) ?_
  refine lv_iconst (v := 0) hx hb dL_value_18 (by decide) ?_
  refine W.widen (k := 12) (n := 100) (by omega) (by omega) ?_
  exact W.iret (v := 0) hx hb hr (fun t9 h9 hW9 => ⟨⟨0, ((L, K, n, rI, g_up r2 oa 0 (r2 (ad 4) xx), rQ, fI, fR), ad, α), rfl, ⟨0, rfl, stpO_of hSt hLo hio, Or.inl ⟨rfl, r, m2, r2 (ad 4), xx, hr6, hri, hok, hxx, hxi, hm2, g_up_at _ _ _ _, hO, rfl⟩⟩, hG.at h9⟩, hG.2.2.1.F h9⟩) hG.2.2.1.2.2 dL_value_19
