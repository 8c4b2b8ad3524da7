set_option maxHeartbeats 4000000 in
set_option maxRecDepth 100000 in
/-- element(i, key, e, on) -/
theorem c_element (l : Launch) (G : gG) (base : Nat) {L : List Nat} {K n : Nat → Nat} {rI : Nat → Nat → Int32} {rJ : Nat → Nat → Int64} {rQ : Nat → Nat → Option Nat} {fI : Nat → Nat → Int32} {fR : Nat → Nat → Option Nat} (hl0 : l.stackTraces = false) {ad : Nat → Nat} {α : aT} (hR : RepX (L, K, n, rI, rJ, rQ, fI, fR) ad α) {i key el : Int32} {on : Bool} : vx_Met l yX2_element wsX2_element ({ frames := 8, cells := 12, slots := 100, locals := 137 }) (va_Pc [.ref (ad 0), .int i, .int key, .int el, .int (bi on)] (g_Px G base (L, K, n, rI, rJ, rQ, fI, fR))) (g_Qi G base (fun u : (gS × (Nat → Nat)) × Nat => u.1.1) (fun x u => (u.2 < 6 ∧ i = nI u.2) ∧ (okI i 6 ∧ okI key 16 ∧ okI el 32) ∧ key - key / 4 * 4 = 0 ∧ x = nI (a_nd α) ∧ StpX (L, K, n, rI, rJ, rQ, fI, fR) ad α u.1.1 u.1.2 (aTurn α u.2 key el on))) (g_XC G base (L, K, n, rI, rJ, rQ, fI, fR) (fun E => (E = "java/lang/IndexOutOfBoundsException" ∧ ¬ (okI i 6 ∧ okI key 16 ∧ okI el 32)) ∨ (E = "java/lang/UnsupportedOperationException" ∧ (okI i 6 ∧ okI key 16 ∧ okI el 32) ∧ ¬ key - key / 4 * 4 = 0) ∨ (E = "java/lang/IllegalStateException" ∧ (okI i 6 ∧ okI key 16 ∧ okI el 32) ∧ key - key / 4 * 4 = 0 ∧ ∃ r, r < 6 ∧ i = nI r ∧ ((on = true ∧ ¬ (a_cnt α < 250 ∧ a_g α r < 100)) ∨ ¬ a_nd α < 250)))) 12 100 (g_A base) := by
  have hDk : isDk L K n fR (ad 0) (ad 1) (ad 2) (ad 3) (ad 35) (ad 4) := hR.1.2.2.1
  have hD : isDt L K n fR (ad 3) (ad 5) (ad 6) (ad 7) (ad 8) (ad 9) (ad 10) := hR.1.2.2.2.1
  have hcnt : fI (ad 3) 6 = nI (a_cnt α) := hR.2.2.2.1.1
  have hmc : fI (ad 0) 5 = nI (a_nd α) := hR.2.1
  have hnd : a_nd α ≤ 250 := hR.1.1
  have hc250 : a_cnt α ≤ 250 := Nat.le_trans hR.2.2.1 hnd
  have hDk0 := hDk
  obtain ⟨hLx, hKx, h0x, h1x, h2x, h3x, h4x, hLra, hKra, hnra, hLma, hKma, hnma, hLod, hKod, hnod⟩ := hDk0
  have hD0 := hD
  obtain ⟨hLd, hKd, h0d, h1d, h2d, h3d, h4d, h5d, hLdr, hKdr, hndr, hLdn, hKdn, hndn, hLdk, hKdk, hndk, hLdp, hKdp, hndp, hLdv, hKdv, hndv, hLdg, hKdg, hndg⟩ := hD0
  have hgr : ∀ r, r < 6 → rI (ad 10) r = nI (a_g α r) ∧ a_g α r ≤ 100 := hR.2.2.2.1.2.1
  refine vx_ofW (cc := cX2_element) (maxL := 6) (ret := (some .int)) (by decide) rfl ?_
  intro p e s m args below meth c s₁ B hml hnt hv
  obtain ⟨rfl, hPr, hX⟩ := hv
  have hx := B.exec
  have hb := B.bytes
  have hr := B.returns
  have hts := atoms_spec (ws := wsX2_element) B.pre
  have hown : s.vm.findClass RX2 = some m.cls := findClass_of_methodNamed B.named
  have hlocks := B.notSynchronized
  have hin : meth.name = "element" := (name_of_methodNamed B.named B.method).1
  have hK := hPr.2.2
  have hG := hPr.gw
  have hl := lv_entry ([.ref (ad 0), .int i, .int key, .int el, .int (bi on)]) (n := 6) (Nat.le_of_ble_eq_true rfl)
  rw [lg_entry_eq]
  generalize (lg_sl ([.ref (ad 0), .int i, .int key, .int el, .int (bi on)]) ++ List.replicate (6 - (lg_sl ([.ref (ad 0), .int i, .int key, .int el, .int (bi on)])).length) Slot.unset).toArray = ls at hl ⊢
  have hl : lv_has ls 6 [(0, .ref (ad 0)), (1, .int i), (2, .int key), (3, .int el), (4, .int (bi on))] := hl
  refine g_start hPr (fun H locs hG => ?_)
  refine lv_aload_n hx hb dX2_element_0 rfl (lv_at hl 0 rfl) ?_
  refine lv_iload_n hx hb dX2_element_1 rfl (lv_at hl 1 rfl) ?_
  refine g_xr (vx_runV (As := [.int i]) (rest := []) ⟨hx, hb, hml, hown, hts⟩ (c_replicaAt l G base hl0 hDk (sa := fun r => ad (11 + 4 * r)) hR.1.2.2.2.2.2.1 (i := i)) (cwV 1 hts gX2_element_X2_replicaAt rfl rfl rfl (by decide +kernel) ⟨(Nat.le_of_ble_eq_true rfl), (Nat.le_of_ble_eq_true rfl)⟩) (g_px2 hK hX hG hLx hKx) rfl rfl hl.1 rfl (lv_room (Nat.le_of_ble_eq_true rfl)) dX2_element_2 ⟨(Nat.le_of_ble_eq_true rfl), (Nat.le_of_ble_eq_true rfl)⟩) hG (fun E ce q9 H locs hpx hG hce hcv hcl => ?_) (fun a0 r H locs hp hG => ?_)
  · exact g_out hnt hlocks hce hcv hcl (Or.inl ⟨hpx.1, fun z => hpx.2 z.1⟩) hG (by omega) (by omega)
  obtain ⟨hr6, rfl, ea⟩ := hp
  replace ea : a0 = ad (11 + 4 * r) := ea
  subst ea
  have hSr : isSt L K n fR (ad (11 + 4 * r)) (ad (12 + 4 * r)) (ad (13 + 4 * r)) (ad (14 + 4 * r)) := repX_st hR (show r < 7 + a_nd α by omega)
  have hS0 := hSr
  obtain ⟨hLar, hKar, h0ar, h1ar, h2ar, hLbr, hKbr, hnbr, hLcr, hKcr, hncr, hLer, hKer, hner⟩ := hS0
  refine lv_astore (lv' := [(5, .ref (ad (11 + 4 * r))), (0, .ref (ad 0)), (1, .int (nI r)), (2, .int key), (3, .int el), (4, .int (bi on))]) hx hb dX2_element_5 hl (by decide) rfl (fun ls hl => ?_)
  refine lv_iload_n hx hb dX2_element_7 rfl (lv_at hl 3 rfl) ?_
  refine lv_bipush (v := 16) hx hb dX2_element_8 (by decide) ?_
  refine g_xv (vx_runS (As := [.int key, .int 16]) (rest := []) ⟨hx, hb, hml, hown, hts⟩ (c_requireIndex l G base hl0 (i := key) (b := 16)) (cwS 2 hts gX2_element_X2_requireIndex rfl rfl rfl (by decide +kernel) ⟨(Nat.le_of_ble_eq_true rfl), (Nat.le_of_ble_eq_true rfl)⟩) (g_psx hK hX hG) rfl rfl hl.1 rfl (lv_room (Nat.le_of_ble_eq_true rfl)) dX2_element_10 ⟨(Nat.le_of_ble_eq_true rfl), (Nat.le_of_ble_eq_true rfl)⟩) hG (fun E ce q9 H locs hpx hG hce hcv hcl => ?_) (fun _ H locs hp hG => ?_)
  · exact g_out hnt hlocks hce hcv hcl (Or.inl ⟨hpx.1, fun z => okI_no (by decide) hpx.2 z.2.1⟩) hG (by omega) (by omega)
  have hk16 : okI key 16 := okI_of (by decide) hp.1 hp.2
  refine lv_iload_n hx hb dX2_element_13 rfl (lv_at hl 4 rfl) ?_
  refine lv_bipush (v := 32) hx hb dX2_element_14 (by decide) ?_
  refine g_xv (vx_runS (As := [.int el, .int 32]) (rest := []) ⟨hx, hb, hml, hown, hts⟩ (c_requireIndex l G base hl0 (i := el) (b := 32)) (cwS 2 hts gX2_element_X2_requireIndex rfl rfl rfl (by decide +kernel) ⟨(Nat.le_of_ble_eq_true rfl), (Nat.le_of_ble_eq_true rfl)⟩) (g_psx hK hX hG) rfl rfl hl.1 rfl (lv_room (Nat.le_of_ble_eq_true rfl)) dX2_element_16 ⟨(Nat.le_of_ble_eq_true rfl), (Nat.le_of_ble_eq_true rfl)⟩) hG (fun E ce q9 H locs hpx hG hce hcv hcl => ?_) (fun _ H locs hp hG => ?_)
  · exact g_out hnt hlocks hce hcv hcl (Or.inl ⟨hpx.1, fun z => okI_no (by decide) hpx.2 z.2.2⟩) hG (by omega) (by omega)
  have he : okI el 32 := okI_of (by decide) hp.1 hp.2
  refine lv_iload_n hx hb dX2_element_19 rfl (lv_at hl 3 rfl) ?_
  refine lv_iconst (v := 0) hx hb dX2_element_20 (by decide) ?_
  refine g_xv (vx_runS (As := [.int key, .int 0]) (rest := []) ⟨hx, hb, hml, hown, hts⟩ (c_requireKind l G base hl0 (i := key) (b := 0)) (cwS 2 hts gX2_element_X2_requireKind rfl rfl rfl (by decide +kernel) ⟨(Nat.le_of_ble_eq_true rfl), (Nat.le_of_ble_eq_true rfl)⟩) (g_psx hK hX hG) rfl rfl hl.1 rfl (lv_room (Nat.le_of_ble_eq_true rfl)) dX2_element_21 ⟨(Nat.le_of_ble_eq_true rfl), (Nat.le_of_ble_eq_true rfl)⟩) hG (fun E ce q9 H locs hpx hG hce hcv hcl => ?_) (fun _ H locs hkd hG => ?_)
  · exact g_out hnt hlocks hce hcv hcl (Or.inr (Or.inl ⟨hpx.1, ⟨⟨r, hr6, rfl⟩, hk16, he⟩, hpx.2⟩)) hG (by omega) (by omega)
  refine lv_aload_n hx hb dX2_element_24 rfl (lv_at hl 1 rfl) ?_
  refine lv_aload hx hb dX2_element_25 (lv_at hl 0 rfl) ?_
  refine lv_iload_n hx hb dX2_element_27 rfl (lv_at hl 2 rfl) ?_
  refine lv_iload_n hx hb dX2_element_28 rfl (lv_at hl 3 rfl) ?_
  refine lv_iload_n hx hb dX2_element_29 rfl (lv_at hl 4 rfl) ?_
  refine lv_iload hx hb dX2_element_30 (lv_at hl 5 rfl) ?_
  refine g_xi (vx_runV (As := [.ref (ad (11 + 4 * r)), .int (nI r), .int key, .int el, .int (bi on)]) (rest := []) ⟨hx, hb, hml, hown, hts⟩ (c_turn l G base hl0 hR (r := r) (key := key) (part := el) (on := on) hr6) (cwV 5 hts gX2_element_X2_turn rfl rfl rfl (by decide +kernel) ⟨(Nat.le_of_ble_eq_true rfl), (Nat.le_of_ble_eq_true rfl)⟩) (g_px2 hK hX hG hLx hKx) rfl rfl hl.1 rfl (lv_room (Nat.le_of_ble_eq_true rfl)) dX2_element_32 ⟨(Nat.le_of_ble_eq_true rfl), (Nat.le_of_ble_eq_true rfl)⟩) hG (fun E ce q9 H locs hpx hG hce hcv hcl => ?_) (fun y u H locs hp hG => ?_)
  · exact g_out hnt hlocks hce hcv hcl (Or.inr (Or.inr ⟨hpx.1, ⟨⟨r, hr6, rfl⟩, hk16, he⟩, hkd, r, hr6, rfl, hpx.2⟩)) hG (by omega) (by omega)
  refine vx_ret ?_
  refine W.widen (k := 12) (n := 100) (by omega) (by omega) ?_
  exact W.iret (v := y) hx hb hr (fun t9 h9 hW9 => ⟨⟨y, (u, r), rfl, ⟨⟨hr6, rfl⟩, ⟨⟨r, hr6, rfl⟩, hk16, he⟩, hkd, hp.1, hp.2⟩, hG.at h9⟩, hG.2.2.1.F h9⟩) hG.2.2.1.2.2 dX2_element_35
set_option maxHeartbeats 4000000 in
set_option maxRecDepth 100000 in
/-- flag(i, key, e, on) -/
theorem c_flag (l : Launch) (G : gG) (base : Nat) {L : List Nat} {K n : Nat → Nat} {rI : Nat → Nat → Int32} {rJ : Nat → Nat → Int64} {rQ : Nat → Nat → Option Nat} {fI : Nat → Nat → Int32} {fR : Nat → Nat → Option Nat} (hl0 : l.stackTraces = false) {ad : Nat → Nat} {α : aT} (hR : RepX (L, K, n, rI, rJ, rQ, fI, fR) ad α) {i key el : Int32} {on : Bool} : vx_Met l yX2_flag wsX2_flag ({ frames := 8, cells := 12, slots := 100, locals := 137 }) (va_Pc [.ref (ad 0), .int i, .int key, .int el, .int (bi on)] (g_Px G base (L, K, n, rI, rJ, rQ, fI, fR))) (g_Qi G base (fun u : (gS × (Nat → Nat)) × Nat => u.1.1) (fun x u => (u.2 < 6 ∧ i = nI u.2) ∧ (okI i 6 ∧ okI key 16 ∧ okI el 8) ∧ key - key / 4 * 4 = 3 ∧ x = nI (a_nd α) ∧ StpX (L, K, n, rI, rJ, rQ, fI, fR) ad α u.1.1 u.1.2 (aTurn α u.2 key el on))) (g_XC G base (L, K, n, rI, rJ, rQ, fI, fR) (fun E => (E = "java/lang/IndexOutOfBoundsException" ∧ ¬ (okI i 6 ∧ okI key 16 ∧ okI el 8)) ∨ (E = "java/lang/UnsupportedOperationException" ∧ (okI i 6 ∧ okI key 16 ∧ okI el 8) ∧ ¬ key - key / 4 * 4 = 3) ∨ (E = "java/lang/IllegalStateException" ∧ (okI i 6 ∧ okI key 16 ∧ okI el 8) ∧ key - key / 4 * 4 = 3 ∧ ∃ r, r < 6 ∧ i = nI r ∧ ((on = true ∧ ¬ (a_cnt α < 250 ∧ a_g α r < 100)) ∨ ¬ a_nd α < 250)))) 12 100 (g_A base) := by
  have hDk : isDk L K n fR (ad 0) (ad 1) (ad 2) (ad 3) (ad 35) (ad 4) := hR.1.2.2.1
  have hD : isDt L K n fR (ad 3) (ad 5) (ad 6) (ad 7) (ad 8) (ad 9) (ad 10) := hR.1.2.2.2.1
  have hcnt : fI (ad 3) 6 = nI (a_cnt α) := hR.2.2.2.1.1
  have hmc : fI (ad 0) 5 = nI (a_nd α) := hR.2.1
  have hnd : a_nd α ≤ 250 := hR.1.1
  have hc250 : a_cnt α ≤ 250 := Nat.le_trans hR.2.2.1 hnd
  have hDk0 := hDk
  obtain ⟨hLx, hKx, h0x, h1x, h2x, h3x, h4x, hLra, hKra, hnra, hLma, hKma, hnma, hLod, hKod, hnod⟩ := hDk0
  have hD0 := hD
  obtain ⟨hLd, hKd, h0d, h1d, h2d, h3d, h4d, h5d, hLdr, hKdr, hndr, hLdn, hKdn, hndn, hLdk, hKdk, hndk, hLdp, hKdp, hndp, hLdv, hKdv, hndv, hLdg, hKdg, hndg⟩ := hD0
  have hgr : ∀ r, r < 6 → rI (ad 10) r = nI (a_g α r) ∧ a_g α r ≤ 100 := hR.2.2.2.1.2.1
  refine vx_ofW (cc := cX2_flag) (maxL := 6) (ret := (some .int)) (by decide) rfl ?_
  intro p e s m args below meth c s₁ B hml hnt hv
  obtain ⟨rfl, hPr, hX⟩ := hv
  have hx := B.exec
  have hb := B.bytes
  have hr := B.returns
  have hts := atoms_spec (ws := wsX2_flag) B.pre
  have hown : s.vm.findClass RX2 = some m.cls := findClass_of_methodNamed B.named
  have hlocks := B.notSynchronized
  have hin : meth.name = "flag" := (name_of_methodNamed B.named B.method).1
  have hK := hPr.2.2
  have hG := hPr.gw
  have hl := lv_entry ([.ref (ad 0), .int i, .int key, .int el, .int (bi on)]) (n := 6) (Nat.le_of_ble_eq_true rfl)
  rw [lg_entry_eq]
  generalize (lg_sl ([.ref (ad 0), .int i, .int key, .int el, .int (bi on)]) ++ List.replicate (6 - (lg_sl ([.ref (ad 0), .int i, .int key, .int el, .int (bi on)])).length) Slot.unset).toArray = ls at hl ⊢
  have hl : lv_has ls 6 [(0, .ref (ad 0)), (1, .int i), (2, .int key), (3, .int el), (4, .int (bi on))] := hl
  refine g_start hPr (fun H locs hG => ?_)
  refine lv_aload_n hx hb dX2_flag_0 rfl (lv_at hl 0 rfl) ?_
  refine lv_iload_n hx hb dX2_flag_1 rfl (lv_at hl 1 rfl) ?_
  refine g_xr (vx_runV (As := [.int i]) (rest := []) ⟨hx, hb, hml, hown, hts⟩ (c_replicaAt l G base hl0 hDk (sa := fun r => ad (11 + 4 * r)) hR.1.2.2.2.2.2.1 (i := i)) (cwV 1 hts gX2_flag_X2_replicaAt rfl rfl rfl (by decide +kernel) ⟨(Nat.le_of_ble_eq_true rfl), (Nat.le_of_ble_eq_true rfl)⟩) (g_px2 hK hX hG hLx hKx) rfl rfl hl.1 rfl (lv_room (Nat.le_of_ble_eq_true rfl)) dX2_flag_2 ⟨(Nat.le_of_ble_eq_true rfl), (Nat.le_of_ble_eq_true rfl)⟩) hG (fun E ce q9 H locs hpx hG hce hcv hcl => ?_) (fun a0 r H locs hp hG => ?_)
  · exact g_out hnt hlocks hce hcv hcl (Or.inl ⟨hpx.1, fun z => hpx.2 z.1⟩) hG (by omega) (by omega)
  obtain ⟨hr6, rfl, ea⟩ := hp
  replace ea : a0 = ad (11 + 4 * r) := ea
  subst ea
  have hSr : isSt L K n fR (ad (11 + 4 * r)) (ad (12 + 4 * r)) (ad (13 + 4 * r)) (ad (14 + 4 * r)) := repX_st hR (show r < 7 + a_nd α by omega)
  have hS0 := hSr
  obtain ⟨hLar, hKar, h0ar, h1ar, h2ar, hLbr, hKbr, hnbr, hLcr, hKcr, hncr, hLer, hKer, hner⟩ := hS0
  refine lv_astore (lv' := [(5, .ref (ad (11 + 4 * r))), (0, .ref (ad 0)), (1, .int (nI r)), (2, .int key), (3, .int el), (4, .int (bi on))]) hx hb dX2_flag_5 hl (by decide) rfl (fun ls hl => ?_)
  refine lv_iload_n hx hb dX2_flag_7 rfl (lv_at hl 3 rfl) ?_
  refine lv_bipush (v := 16) hx hb dX2_flag_8 (by decide) ?_
  refine g_xv (vx_runS (As := [.int key, .int 16]) (rest := []) ⟨hx, hb, hml, hown, hts⟩ (c_requireIndex l G base hl0 (i := key) (b := 16)) (cwS 2 hts gX2_flag_X2_requireIndex rfl rfl rfl (by decide +kernel) ⟨(Nat.le_of_ble_eq_true rfl), (Nat.le_of_ble_eq_true rfl)⟩) (g_psx hK hX hG) rfl rfl hl.1 rfl (lv_room (Nat.le_of_ble_eq_true rfl)) dX2_flag_10 ⟨(Nat.le_of_ble_eq_true rfl), (Nat.le_of_ble_eq_true rfl)⟩) hG (fun E ce q9 H locs hpx hG hce hcv hcl => ?_) (fun _ H locs hp hG => ?_)
  · exact g_out hnt hlocks hce hcv hcl (Or.inl ⟨hpx.1, fun z => okI_no (by decide) hpx.2 z.2.1⟩) hG (by omega) (by omega)
  have hk16 : okI key 16 := okI_of (by decide) hp.1 hp.2
  refine lv_iload_n hx hb dX2_flag_13 rfl (lv_at hl 4 rfl) ?_
  refine lv_bipush (v := 8) hx hb dX2_flag_14 (by decide) ?_
  refine g_xv (vx_runS (As := [.int el, .int 8]) (rest := []) ⟨hx, hb, hml, hown, hts⟩ (c_requireIndex l G base hl0 (i := el) (b := 8)) (cwS 2 hts gX2_flag_X2_requireIndex rfl rfl rfl (by decide +kernel) ⟨(Nat.le_of_ble_eq_true rfl), (Nat.le_of_ble_eq_true rfl)⟩) (g_psx hK hX hG) rfl rfl hl.1 rfl (lv_room (Nat.le_of_ble_eq_true rfl)) dX2_flag_16 ⟨(Nat.le_of_ble_eq_true rfl), (Nat.le_of_ble_eq_true rfl)⟩) hG (fun E ce q9 H locs hpx hG hce hcv hcl => ?_) (fun _ H locs hp hG => ?_)
  · exact g_out hnt hlocks hce hcv hcl (Or.inl ⟨hpx.1, fun z => okI_no (by decide) hpx.2 z.2.2⟩) hG (by omega) (by omega)
  have he : okI el 8 := okI_of (by decide) hp.1 hp.2
  refine lv_iload_n hx hb dX2_flag_19 rfl (lv_at hl 3 rfl) ?_
  refine lv_iconst (v := 3) hx hb dX2_flag_20 (by decide) ?_
  refine g_xv (vx_runS (As := [.int key, .int 3]) (rest := []) ⟨hx, hb, hml, hown, hts⟩ (c_requireKind l G base hl0 (i := key) (b := 3)) (cwS 2 hts gX2_flag_X2_requireKind rfl rfl rfl (by decide +kernel) ⟨(Nat.le_of_ble_eq_true rfl), (Nat.le_of_ble_eq_true rfl)⟩) (g_psx hK hX hG) rfl rfl hl.1 rfl (lv_room (Nat.le_of_ble_eq_true rfl)) dX2_flag_21 ⟨(Nat.le_of_ble_eq_true rfl), (Nat.le_of_ble_eq_true rfl)⟩) hG (fun E ce q9 H locs hpx hG hce hcv hcl => ?_) (fun _ H locs hkd hG => ?_)
  · exact g_out hnt hlocks hce hcv hcl (Or.inr (Or.inl ⟨hpx.1, ⟨⟨r, hr6, rfl⟩, hk16, he⟩, hpx.2⟩)) hG (by omega) (by omega)
  refine lv_aload_n hx hb dX2_flag_24 rfl (lv_at hl 1 rfl) ?_
  refine lv_aload hx hb dX2_flag_25 (lv_at hl 0 rfl) ?_
  refine lv_iload_n hx hb dX2_flag_27 rfl (lv_at hl 2 rfl) ?_
  refine lv_iload_n hx hb dX2_flag_28 rfl (lv_at hl 3 rfl) ?_
  refine lv_iload_n hx hb dX2_flag_29 rfl (lv_at hl 4 rfl) ?_
  refine lv_iload hx hb dX2_flag_30 (lv_at hl 5 rfl) ?_
  refine g_xi (vx_runV (As := [.ref (ad (11 + 4 * r)), .int (nI r), .int key, .int el, .int (bi on)]) (rest := []) ⟨hx, hb, hml, hown, hts⟩ (c_turn l G base hl0 hR (r := r) (key := key) (part := el) (on := on) hr6) (cwV 5 hts gX2_flag_X2_turn rfl rfl rfl (by decide +kernel) ⟨(Nat.le_of_ble_eq_true rfl), (Nat.le_of_ble_eq_true rfl)⟩) (g_px2 hK hX hG hLx hKx) rfl rfl hl.1 rfl (lv_room (Nat.le_of_ble_eq_true rfl)) dX2_flag_32 ⟨(Nat.le_of_ble_eq_true rfl), (Nat.le_of_ble_eq_true rfl)⟩) hG (fun E ce q9 H locs hpx hG hce hcv hcl => ?_) (fun y u H locs hp hG => ?_)
  · exact g_out hnt hlocks hce hcv hcl (Or.inr (Or.inr ⟨hpx.1, ⟨⟨r, hr6, rfl⟩, hk16, he⟩, hkd, r, hr6, rfl, hpx.2⟩)) hG (by omega) (by omega)
  refine vx_ret ?_
  refine W.widen (k := 12) (n := 100) (by omega) (by omega) ?_
  exact W.iret (v := y) hx hb hr (fun t9 h9 hW9 => ⟨⟨y, (u, r), rfl, ⟨⟨hr6, rfl⟩, ⟨⟨r, hr6, rfl⟩, hk16, he⟩, hkd, hp.1, hp.2⟩, hG.at h9⟩, hG.2.2.1.F h9⟩) hG.2.2.1.2.2 dX2_flag_35
set_option maxHeartbeats 4000000 in
set_option maxRecDepth 100000 in
/-- write(i, key, v) -/
theorem c_write (l : Launch) (G : gG) (base : Nat) {L : List Nat} {K n : Nat → Nat} {rI : Nat → Nat → Int32} {rJ : Nat → Nat → Int64} {rQ : Nat → Nat → Option Nat} {fI : Nat → Nat → Int32} {fR : Nat → Nat → Option Nat} (hl0 : l.stackTraces = false) {ad : Nat → Nat} {α : aT} (hR : RepX (L, K, n, rI, rJ, rQ, fI, fR) ad α) {i key : Int32} {v : Int64} : vx_Met l yX2_write wsX2_write ({ frames := 7, cells := 12, slots := 100, locals := 111 }) (va_Pc [.ref (ad 0), .int i, .int key, .long v] (g_Px G base (L, K, n, rI, rJ, rQ, fI, fR))) (g_Qi G base (fun u : (gS × (Nat → Nat)) × Nat => u.1.1) (fun x u => (u.2 < 6 ∧ i = nI u.2) ∧ (okI i 6 ∧ okI key 16) ∧ key - key / 4 * 4 = 1 ∧ x = nI (a_nd α) ∧ StpX (L, K, n, rI, rJ, rQ, fI, fR) ad α u.1.1 u.1.2 (aWrite α u.2 key v))) (g_XC G base (L, K, n, rI, rJ, rQ, fI, fR) (fun E => (E = "java/lang/IndexOutOfBoundsException" ∧ ¬ (okI i 6 ∧ okI key 16)) ∨ (E = "java/lang/UnsupportedOperationException" ∧ (okI i 6 ∧ okI key 16) ∧ ¬ key - key / 4 * 4 = 1) ∨ (E = "java/lang/IllegalStateException" ∧ (okI i 6 ∧ okI key 16) ∧ key - key / 4 * 4 = 1 ∧ ∃ r, r < 6 ∧ i = nI r ∧ (¬ (a_cnt α < 250 ∧ a_g α r < 100) ∨ ¬ a_nd α < 250)))) 12 100 (g_A base) := by
  have hDk : isDk L K n fR (ad 0) (ad 1) (ad 2) (ad 3) (ad 35) (ad 4) := hR.1.2.2.1
  have hD : isDt L K n fR (ad 3) (ad 5) (ad 6) (ad 7) (ad 8) (ad 9) (ad 10) := hR.1.2.2.2.1
  have hcnt : fI (ad 3) 6 = nI (a_cnt α) := hR.2.2.2.1.1
  have hmc : fI (ad 0) 5 = nI (a_nd α) := hR.2.1
  have hnd : a_nd α ≤ 250 := hR.1.1
  have hc250 : a_cnt α ≤ 250 := Nat.le_trans hR.2.2.1 hnd
  have hDk0 := hDk
  obtain ⟨hLx, hKx, h0x, h1x, h2x, h3x, h4x, hLra, hKra, hnra, hLma, hKma, hnma, hLod, hKod, hnod⟩ := hDk0
  have hD0 := hD
  obtain ⟨hLd, hKd, h0d, h1d, h2d, h3d, h4d, h5d, hLdr, hKdr, hndr, hLdn, hKdn, hndn, hLdk, hKdk, hndk, hLdp, hKdp, hndp, hLdv, hKdv, hndv, hLdg, hKdg, hndg⟩ := hD0
  have hgr : ∀ r, r < 6 → rI (ad 10) r = nI (a_g α r) ∧ a_g α r ≤ 100 := hR.2.2.2.1.2.1
  refine vx_ofW (cc := cX2_write) (maxL := 7) (ret := (some .int)) (by decide) rfl ?_
  intro p e s m args below meth c s₁ B hml hnt hv
  obtain ⟨rfl, hPr, hX⟩ := hv
  have hx := B.exec
  have hb := B.bytes
  have hr := B.returns
  have hts := atoms_spec (ws := wsX2_write) B.pre
  have hown : s.vm.findClass RX2 = some m.cls := findClass_of_methodNamed B.named
  have hlocks := B.notSynchronized
  have hin : meth.name = "write" := (name_of_methodNamed B.named B.method).1
  have hK := hPr.2.2
  have hG := hPr.gw
  have hl := lv_entry ([.ref (ad 0), .int i, .int key, .long v]) (n := 7) (Nat.le_of_ble_eq_true rfl)
  rw [lg_entry_eq]
  generalize (lg_sl ([.ref (ad 0), .int i, .int key, .long v]) ++ List.replicate (7 - (lg_sl ([.ref (ad 0), .int i, .int key, .long v])).length) Slot.unset).toArray = ls at hl ⊢
  have hl : lv_has ls 7 [(0, .ref (ad 0)), (1, .int i), (2, .int key), (3, .long v)] := hl
  refine g_start hPr (fun H locs hG => ?_)
  refine lv_aload_n hx hb dX2_write_0 rfl (lv_at hl 0 rfl) ?_
  refine lv_iload_n hx hb dX2_write_1 rfl (lv_at hl 1 rfl) ?_
  refine g_xr (vx_runV (As := [.int i]) (rest := []) ⟨hx, hb, hml, hown, hts⟩ (c_replicaAt l G base hl0 hDk (sa := fun r => ad (11 + 4 * r)) hR.1.2.2.2.2.2.1 (i := i)) (cwV 1 hts gX2_write_X2_replicaAt rfl rfl rfl (by decide +kernel) ⟨(Nat.le_of_ble_eq_true rfl), (Nat.le_of_ble_eq_true rfl)⟩) (g_px2 hK hX hG hLx hKx) rfl rfl hl.1 rfl (lv_room (Nat.le_of_ble_eq_true rfl)) dX2_write_2 ⟨(Nat.le_of_ble_eq_true rfl), (Nat.le_of_ble_eq_true rfl)⟩) hG (fun E ce q9 H locs hpx hG hce hcv hcl => ?_) (fun a0 r H locs hp hG => ?_)
  · exact g_out hnt hlocks hce hcv hcl (Or.inl ⟨hpx.1, fun z => hpx.2 z.1⟩) hG (by omega) (by omega)
  obtain ⟨hr6, rfl, ea⟩ := hp
  replace ea : a0 = ad (11 + 4 * r) := ea
  subst ea
  have hSr : isSt L K n fR (ad (11 + 4 * r)) (ad (12 + 4 * r)) (ad (13 + 4 * r)) (ad (14 + 4 * r)) := repX_st hR (show r < 7 + a_nd α by omega)
  have hS0 := hSr
  obtain ⟨hLar, hKar, h0ar, h1ar, h2ar, hLbr, hKbr, hnbr, hLcr, hKcr, hncr, hLer, hKer, hner⟩ := hS0
  refine lv_astore (lv' := [(5, .ref (ad (11 + 4 * r))), (0, .ref (ad 0)), (1, .int (nI r)), (2, .int key), (3, .long v)]) hx hb dX2_write_5 hl (by decide) rfl (fun ls hl => ?_)
  refine lv_iload_n hx hb dX2_write_7 rfl (lv_at hl 3 rfl) ?_
  refine lv_bipush (v := 16) hx hb dX2_write_8 (by decide) ?_
  refine g_xv (vx_runS (As := [.int key, .int 16]) (rest := []) ⟨hx, hb, hml, hown, hts⟩ (c_requireIndex l G base hl0 (i := key) (b := 16)) (cwS 2 hts gX2_write_X2_requireIndex rfl rfl rfl (by decide +kernel) ⟨(Nat.le_of_ble_eq_true rfl), (Nat.le_of_ble_eq_true rfl)⟩) (g_psx hK hX hG) rfl rfl hl.1 rfl (lv_room (Nat.le_of_ble_eq_true rfl)) dX2_write_10 ⟨(Nat.le_of_ble_eq_true rfl), (Nat.le_of_ble_eq_true rfl)⟩) hG (fun E ce q9 H locs hpx hG hce hcv hcl => ?_) (fun _ H locs hp hG => ?_)
  · exact g_out hnt hlocks hce hcv hcl (Or.inl ⟨hpx.1, fun z => okI_no (by decide) hpx.2 z.2⟩) hG (by omega) (by omega)
  have hk16 : okI key 16 := okI_of (by decide) hp.1 hp.2
  refine lv_iload_n hx hb dX2_write_13 rfl (lv_at hl 3 rfl) ?_
  refine lv_iconst (v := 1) hx hb dX2_write_14 (by decide) ?_
  refine g_xv (vx_runS (As := [.int key, .int 1]) (rest := []) ⟨hx, hb, hml, hown, hts⟩ (c_requireKind l G base hl0 (i := key) (b := 1)) (cwS 2 hts gX2_write_X2_requireKind rfl rfl rfl (by decide +kernel) ⟨(Nat.le_of_ble_eq_true rfl), (Nat.le_of_ble_eq_true rfl)⟩) (g_psx hK hX hG) rfl rfl hl.1 rfl (lv_room (Nat.le_of_ble_eq_true rfl)) dX2_write_15 ⟨(Nat.le_of_ble_eq_true rfl), (Nat.le_of_ble_eq_true rfl)⟩) hG (fun E ce q9 H locs hpx hG hce hcv hcl => ?_) (fun _ H locs hkd hG => ?_)
  · exact g_out hnt hlocks hce hcv hcl (Or.inr (Or.inl ⟨hpx.1, ⟨⟨r, hr6, rfl⟩, hk16⟩, hpx.2⟩)) hG (by omega) (by omega)
  refine lv_aload_n hx hb dX2_write_18 rfl (lv_at hl 1 rfl) ?_
  refine lv_iload_n hx hb dX2_write_19 rfl (lv_at hl 2 rfl) ?_
  refine g_xv (vx_runV (As := [.int (nI r)]) (rest := []) ⟨hx, hb, hml, hown, hts⟩ (c_requireDot l G base hl0 hDk hD hr6 hcnt hc250 (hgr r hr6).1 (hgr r hr6).2) (cwV 1 hts gX2_write_X2_requireDot rfl rfl rfl (by decide +kernel) ⟨(Nat.le_of_ble_eq_true rfl), (Nat.le_of_ble_eq_true rfl)⟩) (g_px2 hK hX hG hLx hKx) rfl rfl hl.1 rfl (lv_room (Nat.le_of_ble_eq_true rfl)) dX2_write_20 ⟨(Nat.le_of_ble_eq_true rfl), (Nat.le_of_ble_eq_true rfl)⟩) hG (fun E ce q9 H locs hpx hG hce hcv hcl => ?_) (fun _ H locs hdt hG => ?_)
  · exact g_out hnt hlocks hce hcv hcl (Or.inr (Or.inr ⟨hpx.1, ⟨⟨r, hr6, rfl⟩, hk16⟩, hkd, r, hr6, rfl, Or.inl hpx.2⟩)) hG (by omega) (by omega)
  refine lv_aload_n hx hb dX2_write_23 rfl (lv_at hl 1 rfl) ?_
  refine g_xr (vx_runV (As := []) (rest := []) ⟨hx, hb, hml, hown, hts⟩ (c_openDelta l G base hl0 hDk hnd hmc) (cwV 0 hts gX2_write_X2_openDelta rfl rfl rfl (by decide +kernel) ⟨(Nat.le_of_ble_eq_true rfl), (Nat.le_of_ble_eq_true rfl)⟩) (g_px2 hK hX hG hLx hKx) rfl rfl hl.1 rfl (lv_room (Nat.le_of_ble_eq_true rfl)) dX2_write_24 ⟨(Nat.le_of_ble_eq_true rfl), (Nat.le_of_ble_eq_true rfl)⟩) hG (fun E ce q9 H locs hpx hG hce hcv hcl => ?_) (fun a1 u H locs hp hG => ?_)
  · exact g_out hnt hlocks hce hcv hcl (Or.inr (Or.inr ⟨hpx.1, ⟨⟨r, hr6, rfl⟩, hk16⟩, hkd, r, hr6, rfl, Or.inr hpx.2⟩)) hG (by omega) (by omega)
  obtain ⟨⟨L1, K1, n1, rI1, rJ1, rQ1, fI1, fR1⟩, bs, bl, bt⟩ := u
  obtain ⟨hlt, hN⟩ := hp
  have hP1 := StpX.new hR hlt hN
  obtain ⟨ad1, ead⟩ : ∃ z, z = adN ad (11 + 4 * (7 + a_nd α)) a1 bs bl bt := ⟨_, rfl⟩
  rw [← ead] at hP1
  have hlo : ∀ {i : Nat}, i < 11 + 4 * (7 + a_nd α) → ad i = ad1 i := fun hi => by rw [ead]; exact (adN_lt hi).symm
  have ea : a1 = ad1 (11 + 4 * (7 + a_nd α)) := by rw [ead]; exact adN_0.symm
  clear ead hN
  subst ea
  replace hG : gw G base s.heap (L1, K1, n1, rI1, rJ1, rQ1, fI1, fR1) H locs := hG
  rw [hlo (i := 0) (by omega), hlo (i := 11 + 4 * r) (by omega)] at hl
  have hR1 := hP1.1
  have hlt1 : a_nd α < 250 := hlt
  have hDk1 : isDk L1 K1 n1 fR1 (ad1 0) (ad1 1) (ad1 2) (ad1 3) (ad1 35) (ad1 4) := hR1.1.2.2.1
  have hD1 : isDt L1 K1 n1 fR1 (ad1 3) (ad1 5) (ad1 6) (ad1 7) (ad1 8) (ad1 9) (ad1 10) := hR1.1.2.2.2.1
  have hDk0 := hDk1
  obtain ⟨hLx1, hKx1, h0x1, h1x1, h2x1, h3x1, h4x1, hLra1, hKra1, hnra1, hLma1, hKma1, hnma1, hLod1, hKod1, hnod1⟩ := hDk0
  have hD0 := hD1
  obtain ⟨hLd1, hKd1, h0d1, h1d1, h2d1, h3d1, h4d1, h5d1, hLdr1, hKdr1, hndr1, hLdn1, hKdn1, hndn1, hLdk1, hKdk1, hndk1, hLdp1, hKdp1, hndp1, hLdv1, hKdv1, hndv1, hLdg1, hKdg1, hndg1⟩ := hD0
  have hcnt1 : fI1 (ad1 3) 6 = nI (a_cnt α) := hR1.2.2.2.1.1
  have hmc1 : fI1 (ad1 0) 5 = nI (a_nd α + 1) := hR1.2.1
  have hDl : 7 + a_nd α < 7 + (a_nd α + 1) := by omega
  have hSr : isSt L1 K1 n1 fR1 (ad1 (11 + 4 * r)) (ad1 (12 + 4 * r)) (ad1 (13 + 4 * r)) (ad1 (14 + 4 * r)) := repX_st hR1 (show r < 7 + (a_nd α + 1) by omega)
  have hS0 := hSr
  obtain ⟨hLar, hKar, h0ar, h1ar, h2ar, hLbr, hKbr, hnbr, hLcr, hKcr, hncr, hLer, hKer, hner⟩ := hS0
  have hSD : isSt L1 K1 n1 fR1 (ad1 (11 + 4 * (7 + a_nd α))) (ad1 (12 + 4 * (7 + a_nd α))) (ad1 (13 + 4 * (7 + a_nd α))) (ad1 (14 + 4 * (7 + a_nd α))) := repX_st hR1 hDl
  have hS0 := hSD
  obtain ⟨hLaD, hKaD, h0aD, h1aD, h2aD, hLbD, hKbD, hnbD, hLcD, hKcD, hncD, hLeD, hKeD, hneD⟩ := hS0
  refine lv_astore (lv' := [(6, .ref (ad1 (11 + 4 * (7 + a_nd α)))), (5, .ref (ad1 (11 + 4 * r))), (0, .ref (ad1 0)), (1, .int (nI r)), (2, .int key), (3, .long v)]) hx hb dX2_write_27 hl (by decide) rfl (fun ls hl => ?_)
  refine lv_aload_n hx hb dX2_write_29 rfl (lv_at hl 2 rfl) ?_
  refine lv_aload hx hb dX2_write_30 (lv_at hl 1 rfl) ?_
  refine lv_aload hx hb dX2_write_32 (lv_at hl 0 rfl) ?_
  refine lv_iload_n hx hb dX2_write_34 rfl (lv_at hl 4 rfl) ?_
  refine lv_iconst (v := (-1)) hx hb dX2_write_35 (by decide) ?_
  refine lv_iconst (v := (-1)) hx hb dX2_write_36 (by decide) ?_
  refine g_calll (va_runV (As := [.ref (ad1 (11 + 4 * r)), .ref (ad1 (11 + 4 * (7 + a_nd α))), .int key, .int (-1), .int (-1)]) (rest := []) ⟨hx, hb, hml, hown, hts⟩ (c_takeBack l G base hR1 (k := r) (D := 7 + a_nd α) (key := key) (q := (-1)) (r := (-1)) (show r < 7 + (a_nd α + 1) by omega) hDl (by omega)) (cwV 5 hts gX2_write_X2_takeBack rfl rfl rfl (by decide +kernel) ⟨(Nat.le_of_ble_eq_true rfl), (Nat.le_of_ble_eq_true rfl)⟩) (g_pv2 hK hG hLx1 hKx1) rfl rfl hl.1 rfl (lv_room (Nat.le_of_ble_eq_true rfl)) dX2_write_37 ⟨(Nat.le_of_ble_eq_true rfl), (Nat.le_of_ble_eq_true rfl)⟩) hG (fun tk j2 H locs hp hG => ?_)
  obtain ⟨htk, hJ2, hb2⟩ := hp
  have hP2 : StpX (L, K, n, rI, rJ, rQ, fI, fR) ad α (L1, K1, n1, rI1, j2, rQ1, fI1, fR1) ad1 (aBack (aNew α) r (7 + a_nd α) key (-1) (-1)) := hP1.tr (StpX.of rfl (repX_see hR1 hDl hJ2 hb2))
  refine lv_pop2_2 hx hb dX2_write_40 rfl ?_
  refine lv_aload hx hb dX2_write_41 (lv_at hl 0 rfl) ?_
  refine lv_aload_n hx hb dX2_write_43 rfl (lv_at hl 2 rfl) ?_
  refine r_Desk_dots hx hb hts (by decide +kernel) hown hK hG hLx1 hKx1 h2x1 (hts (.fieldLink RX2 21 "DotStores" "dots" "LDotStores$Dots;") (by decide +kernel)) dX2_write_44 ?_
  refine lv_iload_n hx hb dX2_write_47 rfl (lv_at hl 3 rfl) ?_
  refine lv_iload_n hx hb dX2_write_48 rfl (lv_at hl 4 rfl) ?_
  refine lv_iconst (v := 0) hx hb dX2_write_49 (by decide) ?_
  refine lv_lload_n hx hb dX2_write_50 rfl (lv_at hl 5 rfl) ?_
  refine g_calli (va_runV (As := [.int (nI r), .int key, .int 0, .long v]) (rest := [.ref (ad1 (11 + 4 * (7 + a_nd α)))]) ⟨hx, hb, hml, hown, hts⟩ (c_make l G base hD1 (r := r) (cnt := a_cnt α) (k := key) (q := 0) (v := v) hr6 hcnt1 hdt.1) (cwV 4 hts gX2_write_X0_make rfl rfl rfl (by decide +kernel) ⟨(Nat.le_of_ble_eq_true rfl), (Nat.le_of_ble_eq_true rfl)⟩) (g_pv0 hK hG hLd1 hKd1) rfl rfl hl.1 rfl (lv_room (Nat.le_of_ble_eq_true rfl)) dX2_write_51 ⟨(Nat.le_of_ble_eq_true rfl), (Nat.le_of_ble_eq_true rfl)⟩) hG (fun y3 _ H locs hp hG => ?_)
  obtain ⟨i3, ei3⟩ : ∃ z, z = g_up (g_up (g_up (g_up (g_up rI1 (ad1 10) r (rI1 (ad1 10) r + 1)) (ad1 5) (a_cnt α) (nI r)) (ad1 6) (a_cnt α) (g_up (g_up rI1 (ad1 10) r (rI1 (ad1 10) r + 1)) (ad1 5) (a_cnt α) (nI r) (ad1 10) r)) (ad1 7) (a_cnt α) key) (ad1 8) (a_cnt α) 0 := ⟨_, rfl⟩
  obtain ⟨j3, ej3⟩ : ∃ z, z = g_up j2 (ad1 9) (a_cnt α) v := ⟨_, rfl⟩
  obtain ⟨f3, ef3⟩ : ∃ z, z = g_up fI1 (ad1 3) 6 (fI1 (ad1 3) 6 + 1) := ⟨_, rfl⟩
  replace hG : gw G base s.heap (L1, K1, n1, i3, j3, rQ1, f3, fR1) H locs := by rw [ei3, ej3, ef3]; exact hG
  subst hp
  have hP3 : StpX (L, K, n, rI, rJ, rQ, fI, fR) ad α (L1, K1, n1, i3, j3, rQ1, f3, fR1) ad1 (aDot (aBack (aNew α) r (7 + a_nd α) key (-1) (-1)) r key 0 v) := hP2.tr (StpX.of rfl (repX_dot hP2.1 hr6 (show a_cnt α < a_nd α + 1 by have := hR.2.2.1; omega) hdt.2 ei3 ej3 ef3))
  refine g_callv (va_runV (As := [.int (nI (a_cnt α))]) (rest := []) ⟨hx, hb, hml, hown, hts⟩ (c_enliven l G base hSD (i := a_cnt α) (by omega)) (cwV 1 hts gX2_write_X1_enliven rfl rfl rfl (by decide +kernel) ⟨(Nat.le_of_ble_eq_true rfl), (Nat.le_of_ble_eq_true rfl)⟩) (g_pv1 hK hG hLaD hKaD) rfl rfl hl.1 rfl (lv_room (Nat.le_of_ble_eq_true rfl)) dX2_write_54 ⟨(Nat.le_of_ble_eq_true rfl), (Nat.le_of_ble_eq_true rfl)⟩) hG (fun j4 H locs hp hG => ?_)
  have hP4 : StpX (L, K, n, rI, rJ, rQ, fI, fR) ad α (L1, K1, n1, i3, j4, rQ1, f3, fR1) ad1 (aMake (aBack (aNew α) r (7 + a_nd α) key (-1) (-1)) (7 + a_nd α) r key 0 v) := hP3.tr (StpX.of rfl (repX_live hP3.1 hDl hp))
  refine lv_aload_n hx hb dX2_write_57 rfl (lv_at hl 2 rfl) ?_
  refine lv_aload hx hb dX2_write_58 (lv_at hl 1 rfl) ?_
  refine lv_aload hx hb dX2_write_60 (lv_at hl 0 rfl) ?_
  refine g_calli (va_runV (As := [.ref (ad1 (11 + 4 * r)), .ref (ad1 (11 + 4 * (7 + a_nd α)))]) (rest := []) ⟨hx, hb, hml, hown, hts⟩ (c_finish l G base hP4.1 (k := r) (o := 7 + a_nd α) (show r < 7 + (a_nd α + 1) by omega) hDl) (cwV 2 hts gX2_write_X2_finish rfl rfl rfl (by decide +kernel) ⟨(Nat.le_of_ble_eq_true rfl), (Nat.le_of_ble_eq_true rfl)⟩) (g_pv2 hK hG hLx1 hKx1) rfl rfl hl.1 rfl (lv_room (Nat.le_of_ble_eq_true rfl)) dX2_write_62 ⟨(Nat.le_of_ble_eq_true rfl), (Nat.le_of_ble_eq_true rfl)⟩) hG (fun y5 u5 H locs hp hG => ?_)
  obtain ⟨i5, j5, f5⟩ := u5
  obtain ⟨rfl, hR5, hK5⟩ := hp
  replace hG : gw G base s.heap (L1, K1, n1, i5, j5, rQ1, f5, fR1) H locs := hG
  have hP5 : StpX (L, K, n, rI, rJ, rQ, fI, fR) ad α (L1, K1, n1, i5, j5, rQ1, f5, fR1) ad1 (aJoin (aMake (aBack (aNew α) r (7 + a_nd α) key (-1) (-1)) (7 + a_nd α) r key 0 v) r (7 + a_nd α)) := hP4.tr (StpX.of rfl ⟨hR5, hK5⟩)
  refine vx_ret ?_
  refine W.widen (k := 12) (n := 100) (by omega) (by omega) ?_
  exact W.iret (v := (nI (a_nd α + 1) - 1)) hx hb hr (fun t9 h9 hW9 => ⟨⟨(nI (a_nd α + 1) - 1), (((L1, K1, n1, i5, j5, rQ1, f5, fR1), ad1), r), rfl, ⟨⟨hr6, rfl⟩, ⟨⟨r, hr6, rfl⟩, hk16⟩, hkd, nI_pred (a_nd α), hP5⟩, hG.at h9⟩, hG.2.2.1.F h9⟩) hG.2.2.1.2.2 dX2_write_65
set_option maxHeartbeats 4000000 in
set_option maxRecDepth 100000 in
/-- count(i, key, v) -/
theorem c_count (l : Launch) (G : gG) (base : Nat) {L : List Nat} {K n : Nat → Nat} {rI : Nat → Nat → Int32} {rJ : Nat → Nat → Int64} {rQ : Nat → Nat → Option Nat} {fI : Nat → Nat → Int32} {fR : Nat → Nat → Option Nat} (hl0 : l.stackTraces = false) {ad : Nat → Nat} {α : aT} (hR : RepX (L, K, n, rI, rJ, rQ, fI, fR) ad α) {i key : Int32} {v : Int64} : vx_Met l yX2_count wsX2_count ({ frames := 7, cells := 12, slots := 100, locals := 111 }) (va_Pc [.ref (ad 0), .int i, .int key, .long v] (g_Px G base (L, K, n, rI, rJ, rQ, fI, fR))) (g_Qi G base (fun u : (gS × (Nat → Nat)) × Nat => u.1.1) (fun x u => (u.2 < 6 ∧ i = nI u.2) ∧ (okI i 6 ∧ okI key 16) ∧ key - key / 4 * 4 = 2 ∧ x = nI (a_nd α) ∧ StpX (L, K, n, rI, rJ, rQ, fI, fR) ad α u.1.1 u.1.2 (aCount α u.2 key v))) (g_XC G base (L, K, n, rI, rJ, rQ, fI, fR) (fun E => (E = "java/lang/IndexOutOfBoundsException" ∧ ¬ (okI i 6 ∧ okI key 16)) ∨ (E = "java/lang/UnsupportedOperationException" ∧ (okI i 6 ∧ okI key 16) ∧ ¬ key - key / 4 * 4 = 2) ∨ (E = "java/lang/IllegalStateException" ∧ (okI i 6 ∧ okI key 16) ∧ key - key / 4 * 4 = 2 ∧ ∃ r, r < 6 ∧ i = nI r ∧ (¬ (a_cnt α < 250 ∧ a_g α r < 100) ∨ ¬ a_nd α < 250)))) 12 100 (g_A base) := by
  have hDk : isDk L K n fR (ad 0) (ad 1) (ad 2) (ad 3) (ad 35) (ad 4) := hR.1.2.2.1
  have hD : isDt L K n fR (ad 3) (ad 5) (ad 6) (ad 7) (ad 8) (ad 9) (ad 10) := hR.1.2.2.2.1
  have hcnt : fI (ad 3) 6 = nI (a_cnt α) := hR.2.2.2.1.1
  have hmc : fI (ad 0) 5 = nI (a_nd α) := hR.2.1
  have hnd : a_nd α ≤ 250 := hR.1.1
  have hc250 : a_cnt α ≤ 250 := Nat.le_trans hR.2.2.1 hnd
  have hDk0 := hDk
  obtain ⟨hLx, hKx, h0x, h1x, h2x, h3x, h4x, hLra, hKra, hnra, hLma, hKma, hnma, hLod, hKod, hnod⟩ := hDk0
  have hD0 := hD
  obtain ⟨hLd, hKd, h0d, h1d, h2d, h3d, h4d, h5d, hLdr, hKdr, hndr, hLdn, hKdn, hndn, hLdk, hKdk, hndk, hLdp, hKdp, hndp, hLdv, hKdv, hndv, hLdg, hKdg, hndg⟩ := hD0
  have hgr : ∀ r, r < 6 → rI (ad 10) r = nI (a_g α r) ∧ a_g α r ≤ 100 := hR.2.2.2.1.2.1
  refine vx_ofW (cc := cX2_count) (maxL := 9) (ret := (some .int)) (by decide) rfl ?_
  intro p e s m args below meth c s₁ B hml hnt hv
  obtain ⟨rfl, hPr, hX⟩ := hv
  have hx := B.exec
  have hb := B.bytes
  have hr := B.returns
  have hts := atoms_spec (ws := wsX2_count) B.pre
  have hown : s.vm.findClass RX2 = some m.cls := findClass_of_methodNamed B.named
  have hlocks := B.notSynchronized
  have hin : meth.name = "count" := (name_of_methodNamed B.named B.method).1
  have hK := hPr.2.2
  have hG := hPr.gw
  have hl := lv_entry ([.ref (ad 0), .int i, .int key, .long v]) (n := 9) (Nat.le_of_ble_eq_true rfl)
  rw [lg_entry_eq]
  generalize (lg_sl ([.ref (ad 0), .int i, .int key, .long v]) ++ List.replicate (9 - (lg_sl ([.ref (ad 0), .int i, .int key, .long v])).length) Slot.unset).toArray = ls at hl ⊢
  have hl : lv_has ls 9 [(0, .ref (ad 0)), (1, .int i), (2, .int key), (3, .long v)] := hl
  refine g_start hPr (fun H locs hG => ?_)
  refine lv_aload_n hx hb dX2_count_0 rfl (lv_at hl 0 rfl) ?_
  refine lv_iload_n hx hb dX2_count_1 rfl (lv_at hl 1 rfl) ?_
  refine g_xr (vx_runV (As := [.int i]) (rest := []) ⟨hx, hb, hml, hown, hts⟩ (c_replicaAt l G base hl0 hDk (sa := fun r => ad (11 + 4 * r)) hR.1.2.2.2.2.2.1 (i := i)) (cwV 1 hts gX2_count_X2_replicaAt rfl rfl rfl (by decide +kernel) ⟨(Nat.le_of_ble_eq_true rfl), (Nat.le_of_ble_eq_true rfl)⟩) (g_px2 hK hX hG hLx hKx) rfl rfl hl.1 rfl (lv_room (Nat.le_of_ble_eq_true rfl)) dX2_count_2 ⟨(Nat.le_of_ble_eq_true rfl), (Nat.le_of_ble_eq_true rfl)⟩) hG (fun E ce q9 H locs hpx hG hce hcv hcl => ?_) (fun a0 r H locs hp hG => ?_)
  · exact g_out hnt hlocks hce hcv hcl (Or.inl ⟨hpx.1, fun z => hpx.2 z.1⟩) hG (by omega) (by omega)
  obtain ⟨hr6, rfl, ea⟩ := hp
  replace ea : a0 = ad (11 + 4 * r) := ea
  subst ea
  have hSr : isSt L K n fR (ad (11 + 4 * r)) (ad (12 + 4 * r)) (ad (13 + 4 * r)) (ad (14 + 4 * r)) := repX_st hR (show r < 7 + a_nd α by omega)
  have hS0 := hSr
  obtain ⟨hLar, hKar, h0ar, h1ar, h2ar, hLbr, hKbr, hnbr, hLcr, hKcr, hncr, hLer, hKer, hner⟩ := hS0
  refine lv_astore (lv' := [(5, .ref (ad (11 + 4 * r))), (0, .ref (ad 0)), (1, .int (nI r)), (2, .int key), (3, .long v)]) hx hb dX2_count_5 hl (by decide) rfl (fun ls hl => ?_)
  refine lv_iload_n hx hb dX2_count_7 rfl (lv_at hl 3 rfl) ?_
  refine lv_bipush (v := 16) hx hb dX2_count_8 (by decide) ?_
  refine g_xv (vx_runS (As := [.int key, .int 16]) (rest := []) ⟨hx, hb, hml, hown, hts⟩ (c_requireIndex l G base hl0 (i := key) (b := 16)) (cwS 2 hts gX2_count_X2_requireIndex rfl rfl rfl (by decide +kernel) ⟨(Nat.le_of_ble_eq_true rfl), (Nat.le_of_ble_eq_true rfl)⟩) (g_psx hK hX hG) rfl rfl hl.1 rfl (lv_room (Nat.le_of_ble_eq_true rfl)) dX2_count_10 ⟨(Nat.le_of_ble_eq_true rfl), (Nat.le_of_ble_eq_true rfl)⟩) hG (fun E ce q9 H locs hpx hG hce hcv hcl => ?_) (fun _ H locs hp hG => ?_)
  · exact g_out hnt hlocks hce hcv hcl (Or.inl ⟨hpx.1, fun z => okI_no (by decide) hpx.2 z.2⟩) hG (by omega) (by omega)
  have hk16 : okI key 16 := okI_of (by decide) hp.1 hp.2
  refine lv_iload_n hx hb dX2_count_13 rfl (lv_at hl 3 rfl) ?_
  refine lv_iconst (v := 2) hx hb dX2_count_14 (by decide) ?_
  refine g_xv (vx_runS (As := [.int key, .int 2]) (rest := []) ⟨hx, hb, hml, hown, hts⟩ (c_requireKind l G base hl0 (i := key) (b := 2)) (cwS 2 hts gX2_count_X2_requireKind rfl rfl rfl (by decide +kernel) ⟨(Nat.le_of_ble_eq_true rfl), (Nat.le_of_ble_eq_true rfl)⟩) (g_psx hK hX hG) rfl rfl hl.1 rfl (lv_room (Nat.le_of_ble_eq_true rfl)) dX2_count_15 ⟨(Nat.le_of_ble_eq_true rfl), (Nat.le_of_ble_eq_true rfl)⟩) hG (fun E ce q9 H locs hpx hG hce hcv hcl => ?_) (fun _ H locs hkd hG => ?_)
  · exact g_out hnt hlocks hce hcv hcl (Or.inr (Or.inl ⟨hpx.1, ⟨⟨r, hr6, rfl⟩, hk16⟩, hpx.2⟩)) hG (by omega) (by omega)
  refine lv_aload_n hx hb dX2_count_18 rfl (lv_at hl 1 rfl) ?_
  refine lv_iload_n hx hb dX2_count_19 rfl (lv_at hl 2 rfl) ?_
  refine g_xv (vx_runV (As := [.int (nI r)]) (rest := []) ⟨hx, hb, hml, hown, hts⟩ (c_requireDot l G base hl0 hDk hD hr6 hcnt hc250 (hgr r hr6).1 (hgr r hr6).2) (cwV 1 hts gX2_count_X2_requireDot rfl rfl rfl (by decide +kernel) ⟨(Nat.le_of_ble_eq_true rfl), (Nat.le_of_ble_eq_true rfl)⟩) (g_px2 hK hX hG hLx hKx) rfl rfl hl.1 rfl (lv_room (Nat.le_of_ble_eq_true rfl)) dX2_count_20 ⟨(Nat.le_of_ble_eq_true rfl), (Nat.le_of_ble_eq_true rfl)⟩) hG (fun E ce q9 H locs hpx hG hce hcv hcl => ?_) (fun _ H locs hdt hG => ?_)
  · exact g_out hnt hlocks hce hcv hcl (Or.inr (Or.inr ⟨hpx.1, ⟨⟨r, hr6, rfl⟩, hk16⟩, hkd, r, hr6, rfl, Or.inl hpx.2⟩)) hG (by omega) (by omega)
  refine lv_aload_n hx hb dX2_count_23 rfl (lv_at hl 1 rfl) ?_
  refine g_xr (vx_runV (As := []) (rest := []) ⟨hx, hb, hml, hown, hts⟩ (c_openDelta l G base hl0 hDk hnd hmc) (cwV 0 hts gX2_count_X2_openDelta rfl rfl rfl (by decide +kernel) ⟨(Nat.le_of_ble_eq_true rfl), (Nat.le_of_ble_eq_true rfl)⟩) (g_px2 hK hX hG hLx hKx) rfl rfl hl.1 rfl (lv_room (Nat.le_of_ble_eq_true rfl)) dX2_count_24 ⟨(Nat.le_of_ble_eq_true rfl), (Nat.le_of_ble_eq_true rfl)⟩) hG (fun E ce q9 H locs hpx hG hce hcv hcl => ?_) (fun a1 u H locs hp hG => ?_)
  · exact g_out hnt hlocks hce hcv hcl (Or.inr (Or.inr ⟨hpx.1, ⟨⟨r, hr6, rfl⟩, hk16⟩, hkd, r, hr6, rfl, Or.inr hpx.2⟩)) hG (by omega) (by omega)
  obtain ⟨⟨L1, K1, n1, rI1, rJ1, rQ1, fI1, fR1⟩, bs, bl, bt⟩ := u
  obtain ⟨hlt, hN⟩ := hp
  have hP1 := StpX.new hR hlt hN
  obtain ⟨ad1, ead⟩ : ∃ z, z = adN ad (11 + 4 * (7 + a_nd α)) a1 bs bl bt := ⟨_, rfl⟩
  rw [← ead] at hP1
  have hlo : ∀ {i : Nat}, i < 11 + 4 * (7 + a_nd α) → ad i = ad1 i := fun hi => by rw [ead]; exact (adN_lt hi).symm
  have ea : a1 = ad1 (11 + 4 * (7 + a_nd α)) := by rw [ead]; exact adN_0.symm
  clear ead hN
  subst ea
  replace hG : gw G base s.heap (L1, K1, n1, rI1, rJ1, rQ1, fI1, fR1) H locs := hG
  rw [hlo (i := 0) (by omega), hlo (i := 11 + 4 * r) (by omega)] at hl
  have hR1 := hP1.1
  have hlt1 : a_nd α < 250 := hlt
  have hDk1 : isDk L1 K1 n1 fR1 (ad1 0) (ad1 1) (ad1 2) (ad1 3) (ad1 35) (ad1 4) := hR1.1.2.2.1
  have hD1 : isDt L1 K1 n1 fR1 (ad1 3) (ad1 5) (ad1 6) (ad1 7) (ad1 8) (ad1 9) (ad1 10) := hR1.1.2.2.2.1
  have hDk0 := hDk1
  obtain ⟨hLx1, hKx1, h0x1, h1x1, h2x1, h3x1, h4x1, hLra1, hKra1, hnra1, hLma1, hKma1, hnma1, hLod1, hKod1, hnod1⟩ := hDk0
  have hD0 := hD1
  obtain ⟨hLd1, hKd1, h0d1, h1d1, h2d1, h3d1, h4d1, h5d1, hLdr1, hKdr1, hndr1, hLdn1, hKdn1, hndn1, hLdk1, hKdk1, hndk1, hLdp1, hKdp1, hndp1, hLdv1, hKdv1, hndv1, hLdg1, hKdg1, hndg1⟩ := hD0
  have hcnt1 : fI1 (ad1 3) 6 = nI (a_cnt α) := hR1.2.2.2.1.1
  have hmc1 : fI1 (ad1 0) 5 = nI (a_nd α + 1) := hR1.2.1
  have hDl : 7 + a_nd α < 7 + (a_nd α + 1) := by omega
  have hSr : isSt L1 K1 n1 fR1 (ad1 (11 + 4 * r)) (ad1 (12 + 4 * r)) (ad1 (13 + 4 * r)) (ad1 (14 + 4 * r)) := repX_st hR1 (show r < 7 + (a_nd α + 1) by omega)
  have hS0 := hSr
  obtain ⟨hLar, hKar, h0ar, h1ar, h2ar, hLbr, hKbr, hnbr, hLcr, hKcr, hncr, hLer, hKer, hner⟩ := hS0
  have hSD : isSt L1 K1 n1 fR1 (ad1 (11 + 4 * (7 + a_nd α))) (ad1 (12 + 4 * (7 + a_nd α))) (ad1 (13 + 4 * (7 + a_nd α))) (ad1 (14 + 4 * (7 + a_nd α))) := repX_st hR1 hDl
  have hS0 := hSD
  obtain ⟨hLaD, hKaD, h0aD, h1aD, h2aD, hLbD, hKbD, hnbD, hLcD, hKcD, hncD, hLeD, hKeD, hneD⟩ := hS0
  refine lv_astore (lv' := [(6, .ref (ad1 (11 + 4 * (7 + a_nd α)))), (5, .ref (ad1 (11 + 4 * r))), (0, .ref (ad1 0)), (1, .int (nI r)), (2, .int key), (3, .long v)]) hx hb dX2_count_27 hl (by decide) rfl (fun ls hl => ?_)
  refine lv_aload_n hx hb dX2_count_29 rfl (lv_at hl 2 rfl) ?_
  refine lv_aload hx hb dX2_count_30 (lv_at hl 1 rfl) ?_
  refine lv_aload hx hb dX2_count_32 (lv_at hl 0 rfl) ?_
  refine lv_iload_n hx hb dX2_count_34 rfl (lv_at hl 4 rfl) ?_
  refine lv_iconst (v := (-1)) hx hb dX2_count_35 (by decide) ?_
  refine lv_iload_n hx hb dX2_count_36 rfl (lv_at hl 3 rfl) ?_
  refine g_calll (va_runV (As := [.ref (ad1 (11 + 4 * r)), .ref (ad1 (11 + 4 * (7 + a_nd α))), .int key, .int (-1), .int (nI r)]) (rest := []) ⟨hx, hb, hml, hown, hts⟩ (c_takeBack l G base hR1 (k := r) (D := 7 + a_nd α) (key := key) (q := (-1)) (r := (nI r)) (show r < 7 + (a_nd α + 1) by omega) hDl (by omega)) (cwV 5 hts gX2_count_X2_takeBack rfl rfl rfl (by decide +kernel) ⟨(Nat.le_of_ble_eq_true rfl), (Nat.le_of_ble_eq_true rfl)⟩) (g_pv2 hK hG hLx1 hKx1) rfl rfl hl.1 rfl (lv_room (Nat.le_of_ble_eq_true rfl)) dX2_count_37 ⟨(Nat.le_of_ble_eq_true rfl), (Nat.le_of_ble_eq_true rfl)⟩) hG (fun tk j2 H locs hp hG => ?_)
  obtain ⟨htk, hJ2, hb2⟩ := hp
  have hP2 : StpX (L, K, n, rI, rJ, rQ, fI, fR) ad α (L1, K1, n1, rI1, j2, rQ1, fI1, fR1) ad1 (aBack (aNew α) r (7 + a_nd α) key (-1) (nI r)) := hP1.tr (StpX.of rfl (repX_see hR1 hDl hJ2 hb2))
  replace htk : tk = sumN (livA (aNew α) r key (-1) (nI r)) (a_val α) (a_cnt α) := htk
  subst htk
  refine lv_lstore (lv' := [(7, .long (sumN (livA (aNew α) r key (-1) (nI r)) (a_val α) (a_cnt α))), (6, .ref (ad1 (11 + 4 * (7 + a_nd α)))), (5, .ref (ad1 (11 + 4 * r))), (0, .ref (ad1 0)), (1, .int (nI r)), (2, .int key), (3, .long v)]) hx hb dX2_count_40 hl (by decide) rfl (fun ls hl => ?_)
  refine lv_aload hx hb dX2_count_42 (lv_at hl 1 rfl) ?_
  refine lv_aload_n hx hb dX2_count_44 rfl (lv_at hl 3 rfl) ?_
  refine r_Desk_dots hx hb hts (by decide +kernel) hown hK hG hLx1 hKx1 h2x1 (hts (.fieldLink RX2 21 "DotStores" "dots" "LDotStores$Dots;") (by decide +kernel)) dX2_count_45 ?_
  refine lv_iload_n hx hb dX2_count_48 rfl (lv_at hl 4 rfl) ?_
  refine lv_iload_n hx hb dX2_count_49 rfl (lv_at hl 5 rfl) ?_
  refine lv_iconst (v := 0) hx hb dX2_count_50 (by decide) ?_
  refine lv_lload hx hb dX2_count_51 (lv_at hl 0 rfl) ?_
  refine lv_lload_n hx hb dX2_count_53 rfl (lv_at hl 6 rfl) ?_
  refine lv_ladd hx hb dX2_count_54 ?_
  refine g_calli (va_runV (As := [.int (nI r), .int key, .int 0, .long ((sumN (livA (aNew α) r key (-1) (nI r)) (a_val α) (a_cnt α)) + v)]) (rest := [.ref (ad1 (11 + 4 * (7 + a_nd α)))]) ⟨hx, hb, hml, hown, hts⟩ (c_make l G base hD1 (r := r) (cnt := a_cnt α) (k := key) (q := 0) (v := (sumN (livA (aNew α) r key (-1) (nI r)) (a_val α) (a_cnt α) + v)) hr6 hcnt1 hdt.1) (cwV 4 hts gX2_count_X0_make rfl rfl rfl (by decide +kernel) ⟨(Nat.le_of_ble_eq_true rfl), (Nat.le_of_ble_eq_true rfl)⟩) (g_pv0 hK hG hLd1 hKd1) rfl rfl hl.1 rfl (lv_room (Nat.le_of_ble_eq_true rfl)) dX2_count_55 ⟨(Nat.le_of_ble_eq_true rfl), (Nat.le_of_ble_eq_true rfl)⟩) hG (fun y3 _ H locs hp hG => ?_)
  obtain ⟨i3, ei3⟩ : ∃ z, z = g_up (g_up (g_up (g_up (g_up rI1 (ad1 10) r (rI1 (ad1 10) r + 1)) (ad1 5) (a_cnt α) (nI r)) (ad1 6) (a_cnt α) (g_up (g_up rI1 (ad1 10) r (rI1 (ad1 10) r + 1)) (ad1 5) (a_cnt α) (nI r) (ad1 10) r)) (ad1 7) (a_cnt α) key) (ad1 8) (a_cnt α) 0 := ⟨_, rfl⟩
  obtain ⟨j3, ej3⟩ : ∃ z, z = g_up j2 (ad1 9) (a_cnt α) (sumN (livA (aNew α) r key (-1) (nI r)) (a_val α) (a_cnt α) + v) := ⟨_, rfl⟩
  obtain ⟨f3, ef3⟩ : ∃ z, z = g_up fI1 (ad1 3) 6 (fI1 (ad1 3) 6 + 1) := ⟨_, rfl⟩
  replace hG : gw G base s.heap (L1, K1, n1, i3, j3, rQ1, f3, fR1) H locs := by rw [ei3, ej3, ef3]; exact hG
  subst hp
  have hP3 : StpX (L, K, n, rI, rJ, rQ, fI, fR) ad α (L1, K1, n1, i3, j3, rQ1, f3, fR1) ad1 (aDot (aBack (aNew α) r (7 + a_nd α) key (-1) (nI r)) r key 0 (sumN (livA (aNew α) r key (-1) (nI r)) (a_val α) (a_cnt α) + v)) := hP2.tr (StpX.of rfl (repX_dot hP2.1 hr6 (show a_cnt α < a_nd α + 1 by have := hR.2.2.1; omega) hdt.2 ei3 ej3 ef3))
  refine g_callv (va_runV (As := [.int (nI (a_cnt α))]) (rest := []) ⟨hx, hb, hml, hown, hts⟩ (c_enliven l G base hSD (i := a_cnt α) (by omega)) (cwV 1 hts gX2_count_X1_enliven rfl rfl rfl (by decide +kernel) ⟨(Nat.le_of_ble_eq_true rfl), (Nat.le_of_ble_eq_true rfl)⟩) (g_pv1 hK hG hLaD hKaD) rfl rfl hl.1 rfl (lv_room (Nat.le_of_ble_eq_true rfl)) dX2_count_58 ⟨(Nat.le_of_ble_eq_true rfl), (Nat.le_of_ble_eq_true rfl)⟩) hG (fun j4 H locs hp hG => ?_)
  have hP4 : StpX (L, K, n, rI, rJ, rQ, fI, fR) ad α (L1, K1, n1, i3, j4, rQ1, f3, fR1) ad1 (aMake (aBack (aNew α) r (7 + a_nd α) key (-1) (nI r)) (7 + a_nd α) r key 0 (sumN (livA (aNew α) r key (-1) (nI r)) (a_val α) (a_cnt α) + v)) := hP3.tr (StpX.of rfl (repX_live hP3.1 hDl hp))
  refine lv_aload_n hx hb dX2_count_61 rfl (lv_at hl 3 rfl) ?_
  refine lv_aload hx hb dX2_count_62 (lv_at hl 2 rfl) ?_
  refine lv_aload hx hb dX2_count_64 (lv_at hl 1 rfl) ?_
  refine g_calli (va_runV (As := [.ref (ad1 (11 + 4 * r)), .ref (ad1 (11 + 4 * (7 + a_nd α)))]) (rest := []) ⟨hx, hb, hml, hown, hts⟩ (c_finish l G base hP4.1 (k := r) (o := 7 + a_nd α) (show r < 7 + (a_nd α + 1) by omega) hDl) (cwV 2 hts gX2_count_X2_finish rfl rfl rfl (by decide +kernel) ⟨(Nat.le_of_ble_eq_true rfl), (Nat.le_of_ble_eq_true rfl)⟩) (g_pv2 hK hG hLx1 hKx1) rfl rfl hl.1 rfl (lv_room (Nat.le_of_ble_eq_true rfl)) dX2_count_66 ⟨(Nat.le_of_ble_eq_true rfl), (Nat.le_of_ble_eq_true rfl)⟩) hG (fun y5 u5 H locs hp hG => ?_)
  obtain ⟨i5, j5, f5⟩ := u5
  obtain ⟨rfl, hR5, hK5⟩ := hp
  replace hG : gw G base s.heap (L1, K1, n1, i5, j5, rQ1, f5, fR1) H locs := hG
  have hP5 : StpX (L, K, n, rI, rJ, rQ, fI, fR) ad α (L1, K1, n1, i5, j5, rQ1, f5, fR1) ad1 (aJoin (aMake (aBack (aNew α) r (7 + a_nd α) key (-1) (nI r)) (7 + a_nd α) r key 0 (sumN (livA (aNew α) r key (-1) (nI r)) (a_val α) (a_cnt α) + v)) r (7 + a_nd α)) := hP4.tr (StpX.of rfl ⟨hR5, hK5⟩)
  refine vx_ret ?_
  refine W.widen (k := 12) (n := 100) (by omega) (by omega) ?_
  exact W.iret (v := (nI (a_nd α + 1) - 1)) hx hb hr (fun t9 h9 hW9 => ⟨⟨(nI (a_nd α + 1) - 1), (((L1, K1, n1, i5, j5, rQ1, f5, fR1), ad1), r), rfl, ⟨⟨hr6, rfl⟩, ⟨⟨r, hr6, rfl⟩, hk16⟩, hkd, nI_pred (a_nd α), hP5⟩, hG.at h9⟩, hG.2.2.1.F h9⟩) hG.2.2.1.2.2 dX2_count_69
set_option maxHeartbeats 4000000 in
set_option maxRecDepth 100000 in
/-- clear(i, key) -/
theorem c_clear (l : Launch) (G : gG) (base : Nat) {L : List Nat} {K n : Nat → Nat} {rI : Nat → Nat → Int32} {rJ : Nat → Nat → Int64} {rQ : Nat → Nat → Option Nat} {fI : Nat → Nat → Int32} {fR : Nat → Nat → Option Nat} (hl0 : l.stackTraces = false) {ad : Nat → Nat} {α : aT} (hR : RepX (L, K, n, rI, rJ, rQ, fI, fR) ad α) {i key : Int32} : vx_Met l yX2_clear wsX2_clear ({ frames := 7, cells := 12, slots := 100, locals := 111 }) (va_Pc [.ref (ad 0), .int i, .int key] (g_Px G base (L, K, n, rI, rJ, rQ, fI, fR))) (g_Qi G base (fun u : (gS × (Nat → Nat)) × Nat => u.1.1) (fun x u => (u.2 < 6 ∧ i = nI u.2) ∧ (okI i 6 ∧ okI key 16) ∧ x = nI (a_nd α) ∧ StpX (L, K, n, rI, rJ, rQ, fI, fR) ad α u.1.1 u.1.2 (aClear α u.2 key))) (g_XC G base (L, K, n, rI, rJ, rQ, fI, fR) (fun E => (E = "java/lang/IndexOutOfBoundsException" ∧ ¬ (okI i 6 ∧ okI key 16)) ∨ (E = "java/lang/IllegalStateException" ∧ (okI i 6 ∧ okI key 16) ∧ ¬ a_nd α < 250))) 12 100 (g_A base) := by
  have hDk : isDk L K n fR (ad 0) (ad 1) (ad 2) (ad 3) (ad 35) (ad 4) := hR.1.2.2.1
  have hD : isDt L K n fR (ad 3) (ad 5) (ad 6) (ad 7) (ad 8) (ad 9) (ad 10) := hR.1.2.2.2.1
  have hcnt : fI (ad 3) 6 = nI (a_cnt α) := hR.2.2.2.1.1
  have hmc : fI (ad 0) 5 = nI (a_nd α) := hR.2.1
  have hnd : a_nd α ≤ 250 := hR.1.1
  have hc250 : a_cnt α ≤ 250 := Nat.le_trans hR.2.2.1 hnd
  have hDk0 := hDk
  obtain ⟨hLx, hKx, h0x, h1x, h2x, h3x, h4x, hLra, hKra, hnra, hLma, hKma, hnma, hLod, hKod, hnod⟩ := hDk0
  have hD0 := hD
  obtain ⟨hLd, hKd, h0d, h1d, h2d, h3d, h4d, h5d, hLdr, hKdr, hndr, hLdn, hKdn, hndn, hLdk, hKdk, hndk, hLdp, hKdp, hndp, hLdv, hKdv, hndv, hLdg, hKdg, hndg⟩ := hD0
  have hgr : ∀ r, r < 6 → rI (ad 10) r = nI (a_g α r) ∧ a_g α r ≤ 100 := hR.2.2.2.1.2.1
  refine vx_ofW (cc := cX2_clear) (maxL := 5) (ret := (some .int)) (by decide) rfl ?_
  intro p e s m args below meth c s₁ B hml hnt hv
  obtain ⟨rfl, hPr, hX⟩ := hv
  have hx := B.exec
  have hb := B.bytes
  have hr := B.returns
  have hts := atoms_spec (ws := wsX2_clear) B.pre
  have hown : s.vm.findClass RX2 = some m.cls := findClass_of_methodNamed B.named
  have hlocks := B.notSynchronized
  have hin : meth.name = "clear" := (name_of_methodNamed B.named B.method).1
  have hK := hPr.2.2
  have hG := hPr.gw
  have hl := lv_entry ([.ref (ad 0), .int i, .int key]) (n := 5) (Nat.le_of_ble_eq_true rfl)
  rw [lg_entry_eq]
  generalize (lg_sl ([.ref (ad 0), .int i, .int key]) ++ List.replicate (5 - (lg_sl ([.ref (ad 0), .int i, .int key])).length) Slot.unset).toArray = ls at hl ⊢
  have hl : lv_has ls 5 [(0, .ref (ad 0)), (1, .int i), (2, .int key)] := hl
  refine g_start hPr (fun H locs hG => ?_)
  refine lv_aload_n hx hb dX2_clear_0 rfl (lv_at hl 0 rfl) ?_
  refine lv_iload_n hx hb dX2_clear_1 rfl (lv_at hl 1 rfl) ?_
  refine g_xr (vx_runV (As := [.int i]) (rest := []) ⟨hx, hb, hml, hown, hts⟩ (c_replicaAt l G base hl0 hDk (sa := fun r => ad (11 + 4 * r)) hR.1.2.2.2.2.2.1 (i := i)) (cwV 1 hts gX2_clear_X2_replicaAt rfl rfl rfl (by decide +kernel) ⟨(Nat.le_of_ble_eq_true rfl), (Nat.le_of_ble_eq_true rfl)⟩) (g_px2 hK hX hG hLx hKx) rfl rfl hl.1 rfl (lv_room (Nat.le_of_ble_eq_true rfl)) dX2_clear_2 ⟨(Nat.le_of_ble_eq_true rfl), (Nat.le_of_ble_eq_true rfl)⟩) hG (fun E ce q9 H locs hpx hG hce hcv hcl => ?_) (fun a0 r H locs hp hG => ?_)
  · exact g_out hnt hlocks hce hcv hcl (Or.inl ⟨hpx.1, fun z => hpx.2 z.1⟩) hG (by omega) (by omega)
  obtain ⟨hr6, rfl, ea⟩ := hp
  replace ea : a0 = ad (11 + 4 * r) := ea
  subst ea
  have hSr : isSt L K n fR (ad (11 + 4 * r)) (ad (12 + 4 * r)) (ad (13 + 4 * r)) (ad (14 + 4 * r)) := repX_st hR (show r < 7 + a_nd α by omega)
  have hS0 := hSr
  obtain ⟨hLar, hKar, h0ar, h1ar, h2ar, hLbr, hKbr, hnbr, hLcr, hKcr, hncr, hLer, hKer, hner⟩ := hS0
  refine lv_astore_n (lv' := [(3, .ref (ad (11 + 4 * r))), (0, .ref (ad 0)), (1, .int (nI r)), (2, .int key)]) hx hb dX2_clear_5 rfl hl (by decide) rfl (fun ls hl => ?_)
  refine lv_iload_n hx hb dX2_clear_6 rfl (lv_at hl 3 rfl) ?_
  refine lv_bipush (v := 16) hx hb dX2_clear_7 (by decide) ?_
  refine g_xv (vx_runS (As := [.int key, .int 16]) (rest := []) ⟨hx, hb, hml, hown, hts⟩ (c_requireIndex l G base hl0 (i := key) (b := 16)) (cwS 2 hts gX2_clear_X2_requireIndex rfl rfl rfl (by decide +kernel) ⟨(Nat.le_of_ble_eq_true rfl), (Nat.le_of_ble_eq_true rfl)⟩) (g_psx hK hX hG) rfl rfl hl.1 rfl (lv_room (Nat.le_of_ble_eq_true rfl)) dX2_clear_9 ⟨(Nat.le_of_ble_eq_true rfl), (Nat.le_of_ble_eq_true rfl)⟩) hG (fun E ce q9 H locs hpx hG hce hcv hcl => ?_) (fun _ H locs hp hG => ?_)
  · exact g_out hnt hlocks hce hcv hcl (Or.inl ⟨hpx.1, fun z => okI_no (by decide) hpx.2 z.2⟩) hG (by omega) (by omega)
  have hk16 : okI key 16 := okI_of (by decide) hp.1 hp.2
  refine lv_aload_n hx hb dX2_clear_12 rfl (lv_at hl 1 rfl) ?_
  refine g_xr (vx_runV (As := []) (rest := []) ⟨hx, hb, hml, hown, hts⟩ (c_openDelta l G base hl0 hDk hnd hmc) (cwV 0 hts gX2_clear_X2_openDelta rfl rfl rfl (by decide +kernel) ⟨(Nat.le_of_ble_eq_true rfl), (Nat.le_of_ble_eq_true rfl)⟩) (g_px2 hK hX hG hLx hKx) rfl rfl hl.1 rfl (lv_room (Nat.le_of_ble_eq_true rfl)) dX2_clear_13 ⟨(Nat.le_of_ble_eq_true rfl), (Nat.le_of_ble_eq_true rfl)⟩) hG (fun E ce q9 H locs hpx hG hce hcv hcl => ?_) (fun a1 u H locs hp hG => ?_)
  · exact g_out hnt hlocks hce hcv hcl (Or.inr ⟨hpx.1, ⟨⟨r, hr6, rfl⟩, hk16⟩, hpx.2⟩) hG (by omega) (by omega)
  obtain ⟨⟨L1, K1, n1, rI1, rJ1, rQ1, fI1, fR1⟩, bs, bl, bt⟩ := u
  obtain ⟨hlt, hN⟩ := hp
  have hP1 := StpX.new hR hlt hN
  obtain ⟨ad1, ead⟩ : ∃ z, z = adN ad (11 + 4 * (7 + a_nd α)) a1 bs bl bt := ⟨_, rfl⟩
  rw [← ead] at hP1
  have hlo : ∀ {i : Nat}, i < 11 + 4 * (7 + a_nd α) → ad i = ad1 i := fun hi => by rw [ead]; exact (adN_lt hi).symm
  have ea : a1 = ad1 (11 + 4 * (7 + a_nd α)) := by rw [ead]; exact adN_0.symm
  clear ead hN
  subst ea
  replace hG : gw G base s.heap (L1, K1, n1, rI1, rJ1, rQ1, fI1, fR1) H locs := hG
  rw [hlo (i := 0) (by omega), hlo (i := 11 + 4 * r) (by omega)] at hl
  have hR1 := hP1.1
  have hlt1 : a_nd α < 250 := hlt
  have hDk1 : isDk L1 K1 n1 fR1 (ad1 0) (ad1 1) (ad1 2) (ad1 3) (ad1 35) (ad1 4) := hR1.1.2.2.1
  have hD1 : isDt L1 K1 n1 fR1 (ad1 3) (ad1 5) (ad1 6) (ad1 7) (ad1 8) (ad1 9) (ad1 10) := hR1.1.2.2.2.1
  have hDk0 := hDk1
  obtain ⟨hLx1, hKx1, h0x1, h1x1, h2x1, h3x1, h4x1, hLra1, hKra1, hnra1, hLma1, hKma1, hnma1, hLod1, hKod1, hnod1⟩ := hDk0
  have hD0 := hD1
  obtain ⟨hLd1, hKd1, h0d1, h1d1, h2d1, h3d1, h4d1, h5d1, hLdr1, hKdr1, hndr1, hLdn1, hKdn1, hndn1, hLdk1, hKdk1, hndk1, hLdp1, hKdp1, hndp1, hLdv1, hKdv1, hndv1, hLdg1, hKdg1, hndg1⟩ := hD0
  have hcnt1 : fI1 (ad1 3) 6 = nI (a_cnt α) := hR1.2.2.2.1.1
  have hmc1 : fI1 (ad1 0) 5 = nI (a_nd α + 1) := hR1.2.1
  have hDl : 7 + a_nd α < 7 + (a_nd α + 1) := by omega
  have hSr : isSt L1 K1 n1 fR1 (ad1 (11 + 4 * r)) (ad1 (12 + 4 * r)) (ad1 (13 + 4 * r)) (ad1 (14 + 4 * r)) := repX_st hR1 (show r < 7 + (a_nd α + 1) by omega)
  have hS0 := hSr
  obtain ⟨hLar, hKar, h0ar, h1ar, h2ar, hLbr, hKbr, hnbr, hLcr, hKcr, hncr, hLer, hKer, hner⟩ := hS0
  have hSD : isSt L1 K1 n1 fR1 (ad1 (11 + 4 * (7 + a_nd α))) (ad1 (12 + 4 * (7 + a_nd α))) (ad1 (13 + 4 * (7 + a_nd α))) (ad1 (14 + 4 * (7 + a_nd α))) := repX_st hR1 hDl
  have hS0 := hSD
  obtain ⟨hLaD, hKaD, h0aD, h1aD, h2aD, hLbD, hKbD, hnbD, hLcD, hKcD, hncD, hLeD, hKeD, hneD⟩ := hS0
  refine lv_astore (lv' := [(4, .ref (ad1 (11 + 4 * (7 + a_nd α)))), (3, .ref (ad1 (11 + 4 * r))), (0, .ref (ad1 0)), (1, .int (nI r)), (2, .int key)]) hx hb dX2_clear_16 hl (by decide) rfl (fun ls hl => ?_)
  refine lv_aload_n hx hb dX2_clear_18 rfl (lv_at hl 2 rfl) ?_
  refine lv_aload_n hx hb dX2_clear_19 rfl (lv_at hl 1 rfl) ?_
  refine lv_aload hx hb dX2_clear_20 (lv_at hl 0 rfl) ?_
  refine lv_iload_n hx hb dX2_clear_22 rfl (lv_at hl 4 rfl) ?_
  refine lv_iconst (v := (-1)) hx hb dX2_clear_23 (by decide) ?_
  refine lv_iconst (v := (-1)) hx hb dX2_clear_24 (by decide) ?_
  refine g_calll (va_runV (As := [.ref (ad1 (11 + 4 * r)), .ref (ad1 (11 + 4 * (7 + a_nd α))), .int key, .int (-1), .int (-1)]) (rest := []) ⟨hx, hb, hml, hown, hts⟩ (c_takeBack l G base hR1 (k := r) (D := 7 + a_nd α) (key := key) (q := (-1)) (r := (-1)) (show r < 7 + (a_nd α + 1) by omega) hDl (by omega)) (cwV 5 hts gX2_clear_X2_takeBack rfl rfl rfl (by decide +kernel) ⟨(Nat.le_of_ble_eq_true rfl), (Nat.le_of_ble_eq_true rfl)⟩) (g_pv2 hK hG hLx1 hKx1) rfl rfl hl.1 rfl (lv_room (Nat.le_of_ble_eq_true rfl)) dX2_clear_25 ⟨(Nat.le_of_ble_eq_true rfl), (Nat.le_of_ble_eq_true rfl)⟩) hG (fun tk j2 H locs hp hG => ?_)
  obtain ⟨htk, hJ2, hb2⟩ := hp
  have hP2 : StpX (L, K, n, rI, rJ, rQ, fI, fR) ad α (L1, K1, n1, rI1, j2, rQ1, fI1, fR1) ad1 (aBack (aNew α) r (7 + a_nd α) key (-1) (-1)) := hP1.tr (StpX.of rfl (repX_see hR1 hDl hJ2 hb2))
  refine lv_pop2_2 hx hb dX2_clear_28 rfl ?_
  refine lv_aload_n hx hb dX2_clear_29 rfl (lv_at hl 2 rfl) ?_
  refine lv_aload_n hx hb dX2_clear_30 rfl (lv_at hl 1 rfl) ?_
  refine lv_aload hx hb dX2_clear_31 (lv_at hl 0 rfl) ?_
  refine g_calli (va_runV (As := [.ref (ad1 (11 + 4 * r)), .ref (ad1 (11 + 4 * (7 + a_nd α)))]) (rest := []) ⟨hx, hb, hml, hown, hts⟩ (c_finish l G base hP2.1 (k := r) (o := 7 + a_nd α) (show r < 7 + (a_nd α + 1) by omega) hDl) (cwV 2 hts gX2_clear_X2_finish rfl rfl rfl (by decide +kernel) ⟨(Nat.le_of_ble_eq_true rfl), (Nat.le_of_ble_eq_true rfl)⟩) (g_pv2 hK hG hLx1 hKx1) rfl rfl hl.1 rfl (lv_room (Nat.le_of_ble_eq_true rfl)) dX2_clear_33 ⟨(Nat.le_of_ble_eq_true rfl), (Nat.le_of_ble_eq_true rfl)⟩) hG (fun y5 u5 H locs hp hG => ?_)
  obtain ⟨i5, j5, f5⟩ := u5
  obtain ⟨rfl, hR5, hK5⟩ := hp
  replace hG : gw G base s.heap (L1, K1, n1, i5, j5, rQ1, f5, fR1) H locs := hG
  have hP5 : StpX (L, K, n, rI, rJ, rQ, fI, fR) ad α (L1, K1, n1, i5, j5, rQ1, f5, fR1) ad1 (aJoin (aBack (aNew α) r (7 + a_nd α) key (-1) (-1)) r (7 + a_nd α)) := hP2.tr (StpX.of rfl ⟨hR5, hK5⟩)
  refine vx_ret ?_
  refine W.widen (k := 12) (n := 100) (by omega) (by omega) ?_
  exact W.iret (v := (nI (a_nd α + 1) - 1)) hx hb hr (fun t9 h9 hW9 => ⟨⟨(nI (a_nd α + 1) - 1), (((L1, K1, n1, i5, j5, rQ1, f5, fR1), ad1), r), rfl, ⟨⟨hr6, rfl⟩, ⟨⟨r, hr6, rfl⟩, hk16⟩, nI_pred (a_nd α), hP5⟩, hG.at h9⟩, hG.2.2.1.F h9⟩) hG.2.2.1.2.2 dX2_clear_36
