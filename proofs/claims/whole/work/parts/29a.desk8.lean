set_option maxHeartbeats 4000000 in
set_option maxRecDepth 100000 in
/-- below -/
theorem c_below (l : Launch) (G : gG) (base : Nat) {L : List Nat} {K n : Nat → Nat} {rI : Nat → Nat → Int32} {rJ : Nat → Nat → Int64} {rQ : Nat → Nat → Option Nat} {fI : Nat → Nat → Int32} {fR : Nat → Nat → Option Nat} (hl0 : l.stackTraces = false) {ad : Nat → Nat} {α : aT} (hR : RepX (L, K, n, rI, rJ, rQ, fI, fR) ad α) {i j : Int32} : vx_Met l yX2_below wsX2_below ({ frames := 7, cells := 12, slots := 100, locals := 111 }) (va_Pc [.ref (ad 0), .int i, .int j] (g_Px G base (L, K, n, rI, rJ, rQ, fI, fR))) (g_Qi G base (fun u : ((Nat → Nat → Int32) × (Nat → Nat → Int64) × (Nat → Nat → Int32)) × Nat × Nat × Bool => (L, K, n, u.1.1, u.1.2.1, rQ, u.1.2.2, fR)) (fun x u => (u.2.1 < 6 ∧ i = nI u.2.1) ∧ (u.2.2.1 < 6 ∧ j = nI u.2.2.1) ∧ x = bi u.2.2.2 ∧ (u.2.2.2 = true ↔ sEq (aJoin (aCopy α 6 u.2.2.1) 6 u.2.1) (aCopy α 6 u.2.2.1) 6 6) ∧ StpX (L, K, n, rI, rJ, rQ, fI, fR) ad α (L, K, n, u.1.1, u.1.2.1, rQ, u.1.2.2, fR) ad (aJoin (aCopy α 6 u.2.2.1) 6 u.2.1))) (g_XC G base (L, K, n, rI, rJ, rQ, fI, fR) (fun E => E = "java/lang/IndexOutOfBoundsException" ∧ ¬ (okI i 6 ∧ okI j 6))) 12 100 (g_A base) := by
  have hDk : isDk L K n fR (ad 0) (ad 1) (ad 2) (ad 3) (ad 35) (ad 4) := hR.1.2.2.1
  have hD : isDt L K n fR (ad 3) (ad 5) (ad 6) (ad 7) (ad 8) (ad 9) (ad 10) := hR.1.2.2.2.1
  have hcnt : fI (ad 3) 6 = nI (a_cnt α) := hR.2.2.2.1.1
  have hmc : fI (ad 0) 5 = nI (a_nd α) := hR.2.1
  have hnd : a_nd α ≤ 250 := hR.1.1
  have hc250 : a_cnt α ≤ 250 := Nat.le_trans hR.2.2.1 hnd
  have hDk0 := hDk
  obtain ⟨hLx, hKx, h0x, h1x, h2x, h3x, h4x, hLra, hKra, hnra, hLma, hKma, hnma, hLod, hKod, hnod⟩ := hDk0
  have hD0 := hD
  obtain ⟨hLd, hKd, h0d, h1d, h2d, h3d, h4d, h5d, hLdr, hKdr, hndr, hLdn, hKdn, hndn, hLdk, hKdk, hndk, hLdp, hKdp, hndp, hLdv, hKdv, hndv, hLdg, hKdg, hndg⟩ := hD0
  have hgr : ∀ r, r < 6 → rI (ad 10) r = nI (a_g α r) ∧ a_g α r ≤ 100 := hR.2.2.2.1.2.1
  refine vx_ofW (cc := cX2_below) (maxL := 4) (ret := (some .int)) (by decide) rfl ?_
  intro p e s m args below meth c s₁ B hml hnt hv
  obtain ⟨rfl, hPr, hX⟩ := hv
  have hx := B.exec
  have hb := B.bytes
  have hr := B.returns
  have hts := atoms_spec (ws := wsX2_below) B.pre
  have hown : s.vm.findClass RX2 = some m.cls := findClass_of_methodNamed B.named
  have hlocks := B.notSynchronized
  have hin : meth.name = "below" := (name_of_methodNamed B.named B.method).1
  have hK := hPr.2.2
  have hG := hPr.gw
  have hl := lv_entry ([.ref (ad 0), .int i, .int j]) (n := 4) (Nat.le_of_ble_eq_true rfl)
  rw [lg_entry_eq]
  generalize (lg_sl ([.ref (ad 0), .int i, .int j]) ++ List.replicate (4 - (lg_sl ([.ref (ad 0), .int i, .int j])).length) Slot.unset).toArray = ls at hl ⊢
  have hl : lv_has ls 4 [(0, .ref (ad 0)), (1, .int i), (2, .int j)] := hl
  refine g_start hPr (fun H locs hG => ?_)
  have hS6 : isSt L K n fR (ad (11 + 4 * 6)) (ad (12 + 4 * 6)) (ad (13 + 4 * 6)) (ad (14 + 4 * 6)) := repX_st hR (show 6 < 7 + a_nd α by omega)
  have hS0 := hS6
  obtain ⟨hLa6, hKa6, h0a6, h1a6, h2a6, hLb6, hKb6, hnb6, hLc6, hKc6, hnc6, hLe6, hKe6, hne6⟩ := hS0
  refine lv_aload_n hx hb dX2_below_0 rfl (lv_at hl 0 rfl) ?_
  refine lv_iload_n hx hb dX2_below_1 rfl (lv_at hl 1 rfl) ?_
  refine g_xr (vx_runV (As := [.int i]) (rest := []) ⟨hx, hb, hml, hown, hts⟩ (c_replicaAt l G base hl0 hDk (sa := fun r => ad (11 + 4 * r)) hR.1.2.2.2.2.2.1 (i := i)) (cwV 1 hts gX2_below_X2_replicaAt rfl rfl rfl (by decide +kernel) ⟨(Nat.le_of_ble_eq_true rfl), (Nat.le_of_ble_eq_true rfl)⟩) (g_px2 hK hX hG hLx hKx) rfl rfl hl.1 rfl (lv_room (Nat.le_of_ble_eq_true rfl)) dX2_below_2 ⟨(Nat.le_of_ble_eq_true rfl), (Nat.le_of_ble_eq_true rfl)⟩) hG (fun E ce q9 H locs hpx hG hce hcv hcl => ?_) (fun a0 r H locs hp hG => ?_)
  · exact g_out hnt hlocks hce hcv hcl ⟨hpx.1, fun z => hpx.2 z.1⟩ hG (by omega) (by omega)
  obtain ⟨hr6, rfl, ea⟩ := hp
  replace ea : a0 = ad (11 + 4 * r) := ea
  subst ea
  have hSr : isSt L K n fR (ad (11 + 4 * r)) (ad (12 + 4 * r)) (ad (13 + 4 * r)) (ad (14 + 4 * r)) := repX_st hR (show r < 7 + a_nd α by omega)
  have hS0 := hSr
  obtain ⟨hLar, hKar, h0ar, h1ar, h2ar, hLbr, hKbr, hnbr, hLcr, hKcr, hncr, hLer, hKer, hner⟩ := hS0
  refine lv_astore_n (lv' := [(3, .ref (ad (11 + 4 * r))), (0, .ref (ad 0)), (1, .int (nI r)), (2, .int j)]) hx hb dX2_below_5 rfl hl (by decide) rfl (fun ls hl => ?_)
  refine lv_aload_n hx hb dX2_below_6 rfl (lv_at hl 1 rfl) ?_
  refine r_Desk_trial hx hb hts (by decide +kernel) hown hK hG hLx hKx h3x (hts (.fieldLink RX2 26 "DotStores" "trial" "LDotStores$State;") (by decide +kernel)) dX2_below_7 ?_
  refine lv_aload_n hx hb dX2_below_10 rfl (lv_at hl 1 rfl) ?_
  refine lv_iload_n hx hb dX2_below_11 rfl (lv_at hl 3 rfl) ?_
  refine g_xr (vx_runV (As := [.int j]) (rest := [.ref (ad 35)]) ⟨hx, hb, hml, hown, hts⟩ (c_replicaAt l G base hl0 hDk (sa := fun r => ad (11 + 4 * r)) hR.1.2.2.2.2.2.1 (i := j)) (cwV 1 hts gX2_below_X2_replicaAt rfl rfl rfl (by decide +kernel) ⟨(Nat.le_of_ble_eq_true rfl), (Nat.le_of_ble_eq_true rfl)⟩) (g_px2 hK hX hG hLx hKx) rfl rfl hl.1 rfl (lv_room (Nat.le_of_ble_eq_true rfl)) dX2_below_12 ⟨(Nat.le_of_ble_eq_true rfl), (Nat.le_of_ble_eq_true rfl)⟩) hG (fun E ce q9 H locs hpx hG hce hcv hcl => ?_) (fun a1 d H locs hp hG => ?_)
  · exact g_out hnt hlocks hce hcv hcl ⟨hpx.1, fun z => hpx.2 z.2⟩ hG (by omega) (by omega)
  obtain ⟨hd6, rfl, ea⟩ := hp
  replace ea : a1 = ad (11 + 4 * d) := ea
  subst ea
  have hSd : isSt L K n fR (ad (11 + 4 * d)) (ad (12 + 4 * d)) (ad (13 + 4 * d)) (ad (14 + 4 * d)) := repX_st hR (show d < 7 + a_nd α by omega)
  have hS0 := hSd
  obtain ⟨hLad, hKad, h0ad, h1ad, h2ad, hLbd, hKbd, hnbd, hLcd, hKcd, hncd, hLed, hKed, hned⟩ := hS0
  refine g_callv (va_runV (As := [.ref (ad (11 + 4 * d))]) (rest := []) ⟨hx, hb, hml, hown, hts⟩ (c_become l G base hS6 hSd) (cwV 1 hts gX2_below_X1_become rfl rfl rfl (by decide +kernel) ⟨(Nat.le_of_ble_eq_true rfl), (Nat.le_of_ble_eq_true rfl)⟩) (g_pv1 hK hG hLa6 hKa6) rfl rfl hl.1 rfl (lv_room (Nat.le_of_ble_eq_true rfl)) dX2_below_15 ⟨(Nat.le_of_ble_eq_true rfl), (Nat.le_of_ble_eq_true rfl)⟩) hG (fun _ H locs hp hG => ?_)
  have hC := repX_copy hR (k := 6) (o := d) (by omega) (by omega) (by omega)
  obtain ⟨i2, ei2⟩ : ∃ z, z = g_cp rI (ad (14 + 4 * d)) (ad (14 + 4 * 6)) 32 := ⟨_, rfl⟩
  obtain ⟨j2, ej2⟩ : ∃ z, z = g_cp (g_cp rJ (ad (12 + 4 * d)) (ad (12 + 4 * 6)) 4) (ad (13 + 4 * d)) (ad (13 + 4 * 6)) 4 := ⟨_, rfl⟩
  obtain ⟨f2, ef2⟩ : ∃ z, z = g_up (g_up fI (ad (11 + 4 * 6)) 3 (fI (ad (11 + 4 * d)) 3)) (ad (11 + 4 * 6)) 4 (g_up fI (ad (11 + 4 * 6)) 3 (fI (ad (11 + 4 * d)) 3) (ad (11 + 4 * d)) 4) := ⟨_, rfl⟩
  rw [← ei2, ← ej2, ← ef2] at hC
  replace hG : gw G base s.heap (L, K, n, i2, j2, rQ, f2, fR) H locs := by rw [ei2, ej2, ef2]; exact hG
  refine lv_aload_n hx hb dX2_below_18 rfl (lv_at hl 1 rfl) ?_
  refine r_Desk_trial hx hb hts (by decide +kernel) hown hK hG hLx hKx h3x (hts (.fieldLink RX2 26 "DotStores" "trial" "LDotStores$State;") (by decide +kernel)) dX2_below_19 ?_
  refine lv_aload_n hx hb dX2_below_22 rfl (lv_at hl 0 rfl) ?_
  refine g_calli (va_runV (As := [.ref (ad (11 + 4 * r))]) (rest := []) ⟨hx, hb, hml, hown, hts⟩ (c_take l G base hS6 hSr (repX_ne hR (by omega) (by omega) (by omega))) (cwV 1 hts gX2_below_X1_take rfl rfl rfl (by decide +kernel) ⟨(Nat.le_of_ble_eq_true rfl), (Nat.le_of_ble_eq_true rfl)⟩) (g_pv1 hK hG hLa6 hKa6) rfl rfl hl.1 rfl (lv_room (Nat.le_of_ble_eq_true rfl)) dX2_below_23 ⟨(Nat.le_of_ble_eq_true rfl), (Nat.le_of_ble_eq_true rfl)⟩) hG (fun y3 u H locs hp hG => ?_)
  obtain ⟨cg, r3, j3, f3⟩ := u
  obtain ⟨hcg, htd, htt, hf3, hfl⟩ := hp
  replace hG : gw G base s.heap (L, K, n, r3, j3, rQ, f3, fR) H locs := hG
  obtain ⟨hR3, hk3, hq3⟩ := repX_join hC.1 (k := 6) (o := r) (show 6 < 7 + a_nd α by omega) (show r < 7 + a_nd α by omega) htd htt hf3
  replace hcg : y3 = bi cg := hcg
  subst hcg
  refine lv_if_ne (tgt := 33) hx hb dX2_below_26 (by decide) (fun c1 => ?_) (fun c1 => ?_)
  · have c1 := ts_nf (fun z => c1 (bi_0.mpr z))
    subst c1
    refine lv_iconst (v := 0) hx hb dX2_below_33 (by decide) ?_
    skip
    refine g_calli (va_runS (As := [.int 0]) (rest := []) ⟨hx, hb, hml, hown, hts⟩ (c_bit l G base (b := false)) (cwS 1 hts gX2_below_X2_bit rfl rfl rfl (by decide +kernel) ⟨(Nat.le_of_ble_eq_true rfl), (Nat.le_of_ble_eq_true rfl)⟩) (g_ps hK hG) rfl rfl hl.1 rfl (lv_room (Nat.le_of_ble_eq_true rfl)) dX2_below_34 ⟨(Nat.le_of_ble_eq_true rfl), (Nat.le_of_ble_eq_true rfl)⟩) hG (fun y2 _ H locs hp hG => ?_)
    subst hp
    refine vx_ret ?_
    refine W.widen (k := 12) (n := 100) (by omega) (by omega) ?_
    exact W.iret (v := (bi false)) hx hb hr (fun t9 h9 hW9 => ⟨⟨(bi false), ((r3, j3, f3), r, d, false), rfl, ⟨⟨hr6, rfl⟩, ⟨hd6, rfl⟩, rfl, ⟨fun z => Bool.noConfusion z, fun z => Bool.noConfusion (hfl.mpr (hq3.mpr z))⟩, StpX.tr (StpX.of (α' := aCopy α 6 d) rfl hC) (StpX.of rfl ⟨hR3, hk3⟩)⟩, hG.at h9⟩, hG.2.2.1.F h9⟩) hG.2.2.1.2.2 dX2_below_37
  · have c1 : cg = false := bi_0.mp (by first | exact c1 | exact Classical.not_not.mp c1)
    subst c1
    refine lv_iconst (v := 1) hx hb dX2_below_29 (by decide) ?_
    refine lv_goto (tgt := 34) hx hb dX2_below_30 (by decide) ?_
    skip
    refine g_calli (va_runS (As := [.int 1]) (rest := []) ⟨hx, hb, hml, hown, hts⟩ (c_bit l G base (b := true)) (cwS 1 hts gX2_below_X2_bit rfl rfl rfl (by decide +kernel) ⟨(Nat.le_of_ble_eq_true rfl), (Nat.le_of_ble_eq_true rfl)⟩) (g_ps hK hG) rfl rfl hl.1 rfl (lv_room (Nat.le_of_ble_eq_true rfl)) dX2_below_34 ⟨(Nat.le_of_ble_eq_true rfl), (Nat.le_of_ble_eq_true rfl)⟩) hG (fun y2 _ H locs hp hG => ?_)
    subst hp
    refine vx_ret ?_
    refine W.widen (k := 12) (n := 100) (by omega) (by omega) ?_
    exact W.iret (v := (bi true)) hx hb hr (fun t9 h9 hW9 => ⟨⟨(bi true), ((r3, j3, f3), r, d, true), rfl, ⟨⟨hr6, rfl⟩, ⟨hd6, rfl⟩, rfl, ⟨fun _ => hq3.mp (hfl.mp rfl), fun _ => rfl⟩, StpX.tr (StpX.of (α' := aCopy α 6 d) rfl hC) (StpX.of rfl ⟨hR3, hk3⟩)⟩, hG.at h9⟩, hG.2.2.1.F h9⟩) hG.2.2.1.2.2 dX2_below_37
set_option maxHeartbeats 4000000 in
set_option maxRecDepth 100000 in
/-- has -/
theorem c_has (l : Launch) (G : gG) (base : Nat) {L : List Nat} {K n : Nat → Nat} {rI : Nat → Nat → Int32} {rJ : Nat → Nat → Int64} {rQ : Nat → Nat → Option Nat} {fI : Nat → Nat → Int32} {fR : Nat → Nat → Option Nat} (hl0 : l.stackTraces = false) {ad : Nat → Nat} {α : aT} (hR : RepX (L, K, n, rI, rJ, rQ, fI, fR) ad α) {i key part : Int32} : vx_Met l yX2_has wsX2_has ({ frames := 7, cells := 12, slots := 100, locals := 111 }) (va_Pc [.ref (ad 0), .int i, .int key, .int part] (g_Px G base (L, K, n, rI, rJ, rQ, fI, fR))) (g_Qi G base (fun u : Nat => (L, K, n, rI, rJ, rQ, fI, fR)) (fun x u => (u < 6 ∧ i = nI u) ∧ (okI i 6 ∧ okI key 16 ∧ okI part 32) ∧ x = bi (anyN (livA α u key part (-1)) (a_cnt α)))) (g_XC G base (L, K, n, rI, rJ, rQ, fI, fR) (fun E => E = "java/lang/IndexOutOfBoundsException" ∧ ¬ (okI i 6 ∧ okI key 16 ∧ okI part 32))) 12 100 (g_A base) := by
  have hDk : isDk L K n fR (ad 0) (ad 1) (ad 2) (ad 3) (ad 35) (ad 4) := hR.1.2.2.1
  have hD : isDt L K n fR (ad 3) (ad 5) (ad 6) (ad 7) (ad 8) (ad 9) (ad 10) := hR.1.2.2.2.1
  have hcnt : fI (ad 3) 6 = nI (a_cnt α) := hR.2.2.2.1.1
  have hmc : fI (ad 0) 5 = nI (a_nd α) := hR.2.1
  have hnd : a_nd α ≤ 250 := hR.1.1
  have hc250 : a_cnt α ≤ 250 := Nat.le_trans hR.2.2.1 hnd
  have hDk0 := hDk
  obtain ⟨hLx, hKx, h0x, h1x, h2x, h3x, h4x, hLra, hKra, hnra, hLma, hKma, hnma, hLod, hKod, hnod⟩ := hDk0
  have hD0 := hD
  obtain ⟨hLd, hKd, h0d, h1d, h2d, h3d, h4d, h5d, hLdr, hKdr, hndr, hLdn, hKdn, hndn, hLdk, hKdk, hndk, hLdp, hKdp, hndp, hLdv, hKdv, hndv, hLdg, hKdg, hndg⟩ := hD0
  have hgr : ∀ r, r < 6 → rI (ad 10) r = nI (a_g α r) ∧ a_g α r ≤ 100 := hR.2.2.2.1.2.1
  refine vx_ofW (cc := cX2_has) (maxL := 6) (ret := (some .int)) (by decide) rfl ?_
  intro p e s m args below meth c s₁ B hml hnt hv
  obtain ⟨rfl, hPr, hX⟩ := hv
  have hx := B.exec
  have hb := B.bytes
  have hr := B.returns
  have hts := atoms_spec (ws := wsX2_has) B.pre
  have hown : s.vm.findClass RX2 = some m.cls := findClass_of_methodNamed B.named
  have hlocks := B.notSynchronized
  have hin : meth.name = "has" := (name_of_methodNamed B.named B.method).1
  have hK := hPr.2.2
  have hG := hPr.gw
  have hl := lv_entry ([.ref (ad 0), .int i, .int key, .int part]) (n := 6) (Nat.le_of_ble_eq_true rfl)
  rw [lg_entry_eq]
  generalize (lg_sl ([.ref (ad 0), .int i, .int key, .int part]) ++ List.replicate (6 - (lg_sl ([.ref (ad 0), .int i, .int key, .int part])).length) Slot.unset).toArray = ls at hl ⊢
  have hl : lv_has ls 6 [(0, .ref (ad 0)), (1, .int i), (2, .int key), (3, .int part)] := hl
  refine g_start hPr (fun H locs hG => ?_)
  refine lv_aload_n hx hb dX2_has_0 rfl (lv_at hl 0 rfl) ?_
  refine lv_iload_n hx hb dX2_has_1 rfl (lv_at hl 1 rfl) ?_
  refine g_xr (vx_runV (As := [.int i]) (rest := []) ⟨hx, hb, hml, hown, hts⟩ (c_replicaAt l G base hl0 hDk (sa := fun r => ad (11 + 4 * r)) hR.1.2.2.2.2.2.1 (i := i)) (cwV 1 hts gX2_has_X2_replicaAt rfl rfl rfl (by decide +kernel) ⟨(Nat.le_of_ble_eq_true rfl), (Nat.le_of_ble_eq_true rfl)⟩) (g_px2 hK hX hG hLx hKx) rfl rfl hl.1 rfl (lv_room (Nat.le_of_ble_eq_true rfl)) dX2_has_2 ⟨(Nat.le_of_ble_eq_true rfl), (Nat.le_of_ble_eq_true rfl)⟩) hG (fun E ce q9 H locs hpx hG hce hcv hcl => ?_) (fun a0 r H locs hp hG => ?_)
  · exact g_out hnt hlocks hce hcv hcl ⟨hpx.1, fun z => hpx.2 z.1⟩ hG (by omega) (by omega)
  obtain ⟨hr6, rfl, ea⟩ := hp
  replace ea : a0 = ad (11 + 4 * r) := ea
  subst ea
  have hSr : isSt L K n fR (ad (11 + 4 * r)) (ad (12 + 4 * r)) (ad (13 + 4 * r)) (ad (14 + 4 * r)) := repX_st hR (show r < 7 + a_nd α by omega)
  have hS0 := hSr
  obtain ⟨hLar, hKar, h0ar, h1ar, h2ar, hLbr, hKbr, hnbr, hLcr, hKcr, hncr, hLer, hKer, hner⟩ := hS0
  refine lv_astore (lv' := [(4, .ref (ad (11 + 4 * r))), (0, .ref (ad 0)), (1, .int (nI r)), (2, .int key), (3, .int part)]) hx hb dX2_has_5 hl (by decide) rfl (fun ls hl => ?_)
  refine lv_iload_n hx hb dX2_has_7 rfl (lv_at hl 3 rfl) ?_
  refine lv_bipush (v := 16) hx hb dX2_has_8 (by decide) ?_
  refine g_xv (vx_runS (As := [.int key, .int 16]) (rest := []) ⟨hx, hb, hml, hown, hts⟩ (c_requireIndex l G base hl0 (i := key) (b := 16)) (cwS 2 hts gX2_has_X2_requireIndex rfl rfl rfl (by decide +kernel) ⟨(Nat.le_of_ble_eq_true rfl), (Nat.le_of_ble_eq_true rfl)⟩) (g_psx hK hX hG) rfl rfl hl.1 rfl (lv_room (Nat.le_of_ble_eq_true rfl)) dX2_has_10 ⟨(Nat.le_of_ble_eq_true rfl), (Nat.le_of_ble_eq_true rfl)⟩) hG (fun E ce q9 H locs hpx hG hce hcv hcl => ?_) (fun _ H locs hp hG => ?_)
  · exact g_out hnt hlocks hce hcv hcl ⟨hpx.1, fun z => okI_no (by decide) hpx.2 z.2.1⟩ hG (by omega) (by omega)
  have hk16 : okI key 16 := okI_of (by decide) hp.1 hp.2
  refine lv_iload_n hx hb dX2_has_13 rfl (lv_at hl 4 rfl) ?_
  refine lv_bipush (v := 32) hx hb dX2_has_14 (by decide) ?_
  refine g_xv (vx_runS (As := [.int part, .int 32]) (rest := []) ⟨hx, hb, hml, hown, hts⟩ (c_requireIndex l G base hl0 (i := part) (b := 32)) (cwS 2 hts gX2_has_X2_requireIndex rfl rfl rfl (by decide +kernel) ⟨(Nat.le_of_ble_eq_true rfl), (Nat.le_of_ble_eq_true rfl)⟩) (g_psx hK hX hG) rfl rfl hl.1 rfl (lv_room (Nat.le_of_ble_eq_true rfl)) dX2_has_16 ⟨(Nat.le_of_ble_eq_true rfl), (Nat.le_of_ble_eq_true rfl)⟩) hG (fun E ce q9 H locs hpx hG hce hcv hcl => ?_) (fun _ H locs hp hG => ?_)
  · exact g_out hnt hlocks hce hcv hcl ⟨hpx.1, fun z => okI_no (by decide) hpx.2 z.2.2⟩ hG (by omega) (by omega)
  have hp32 : okI part 32 := okI_of (by decide) hp.1 hp.2
  refine lv_iconst (v := 0) hx hb dX2_has_19 (by decide) ?_
  refine lv_istore (lv' := [(5, .int 0), (4, .ref (ad (11 + 4 * r))), (0, .ref (ad 0)), (1, .int (nI r)), (2, .int key), (3, .int part)]) hx hb dX2_has_20 hl (by decide) rfl (fun ls hl => ?_)
  obtain ⟨w, ew⟩ : ∃ z : Nat, z = 0 := ⟨_, rfl⟩
  replace hl : lv_has ls 6 [(0, .ref (ad 0)), (1, .int (nI r)), (2, .int key), (3, .int part), (4, .ref (ad (11 + 4 * r))), (5, .int (nI w))] := by subst ew; exact (lv_sub hl [2, 3, 4, 5, 1, 0] rfl)
  have inv : w ≤ a_cnt α ∧ anyN (livA α r key part (-1)) w = false := by
    subst ew
    exact ⟨by omega, rfl⟩
  have hf : a_cnt α < w + 251 := by omega
  clear ew
  generalize 251 = d at hf
  induction d generalizing w H locs ls with
  | zero => exact absurd hf (by have := inv.1; omega)
  | succ d ih =>
    refine lv_iload hx hb dX2_has_22 (lv_at hl 5 rfl) ?_
    refine lv_aload_n hx hb dX2_has_24 rfl (lv_at hl 0 rfl) ?_
    refine r_Desk_dots hx hb hts (by decide +kernel) hown hK hG hLx hKx h2x (hts (.fieldLink RX2 21 "DotStores" "dots" "LDotStores$Dots;") (by decide +kernel)) dX2_has_25 ?_
    refine r_Dots_count hx hb hts (by decide +kernel) hown hK hG hLd hKd (hts (.fieldLink RX2 108 "DotStores$Dots" "count" "I") (by decide +kernel)) dX2_has_28 ?_
    refine lv_topi (fun z1 ez1 => ?_)
    obtain rfl : z1 = nI (a_cnt α) := ez1.trans (hcnt)
    refine lv_icmp_ge (tgt := 67) hx hb dX2_has_31 (by decide) (fun c0 => ?_) (fun c0 => ?_)
    · have hwc : w = a_cnt α := Nat.le_antisymm inv.1 (nI_le_of (by omega) c0)
      refine lv_iconst (v := 0) hx hb dX2_has_67 (by decide) ?_
      refine vx_ret ?_
      refine W.widen (k := 12) (n := 100) (by omega) (by omega) ?_
      exact W.iret (v := 0) hx hb hr (fun t9 h9 hW9 => ⟨⟨0, r, rfl, ⟨⟨hr6, rfl⟩, ⟨⟨r, hr6, rfl⟩, hk16, hp32⟩, by subst hwc; rw [inv.2]; rfl⟩, hG.at h9⟩, hG.2.2.1.F h9⟩) hG.2.2.1.2.2 dX2_has_68
    · have hwc : w < a_cnt α := nI_lt_of (by omega) c0
      refine lv_aload hx hb dX2_has_34 (lv_at hl 4 rfl) ?_
      refine lv_iload hx hb dX2_has_36 (lv_at hl 5 rfl) ?_
      refine g_calli (va_runV (As := [.int (nI w)]) (rest := []) ⟨hx, hb, hml, hown, hts⟩ (c_isLive l G base hSr (i := w) (by omega)) (cwV 1 hts gX2_has_X1_isLive rfl rfl rfl (by decide +kernel) ⟨(Nat.le_of_ble_eq_true rfl), (Nat.le_of_ble_eq_true rfl)⟩) (g_pv1 hK hG hLar hKar) rfl rfl hl.1 rfl (lv_room (Nat.le_of_ble_eq_true rfl)) dX2_has_38 ⟨(Nat.le_of_ble_eq_true rfl), (Nat.le_of_ble_eq_true rfl)⟩) hG (fun y1 u H locs hp hG => ?_)
      have hp : y1 = bi (a_L α r w) := by
        rw [hp]
        exact congrArg bi ((hR.2.2.2.2 r (show r < 7 + a_nd α by omega)).1 w (by omega)).2
      subst hp
      refine lv_if_eq (tgt := 61) hx hb dX2_has_41 (by decide) (fun c1 => ?_) (fun c1 => ?_)
      · have c1 := bi_0.mp c1
        have hlv : livA α r key part (-1) w = false := livA_f1 c1
        refine lv_iinc (v := (nI (w + 1))) (lv' := [(5, .int (nI (w + 1))), (0, .ref (ad 0)), (1, .int (nI r)), (2, .int key), (3, .int part), (4, .ref (ad (11 + 4 * r)))]) hx hb dX2_has_61 hl (k := 5) rfl (nI_1 w) (by decide) rfl (fun ls hl => ?_)
        refine lv_goto (tgt := 22) hx hb dX2_has_64 (by decide) ?_
        exact ih (w := w + 1) (hl := (lv_sub hl [1, 2, 3, 4, 5, 0] rfl)) (hG := hG) (inv := ⟨by omega, by rw [anyN_s, inv.2, hlv]; rfl⟩) (hf := by omega)
      · have c1 := ts_nf (fun z => c1 (bi_0.mpr z))
        refine lv_aload_n hx hb dX2_has_44 rfl (lv_at hl 0 rfl) ?_
        refine r_Desk_dots hx hb hts (by decide +kernel) hown hK hG hLx hKx h2x (hts (.fieldLink RX2 21 "DotStores" "dots" "LDotStores$Dots;") (by decide +kernel)) dX2_has_45 ?_
        refine lv_iload hx hb dX2_has_48 (lv_at hl 5 rfl) ?_
        refine lv_iload_n hx hb dX2_has_50 rfl (lv_at hl 2 rfl) ?_
        refine lv_iload_n hx hb dX2_has_51 rfl (lv_at hl 3 rfl) ?_
        refine lv_iconst (v := (-1)) hx hb dX2_has_52 (by decide) ?_
        refine g_calli (va_runV (As := [.int (nI w), .int key, .int part, .int (-1)]) (rest := []) ⟨hx, hb, hml, hown, hts⟩ (c_fits l G base hD (i := w) (k := key) (q := part) (r := (-1)) (by omega)) (cwV 4 hts gX2_has_X0_fits rfl rfl rfl (by decide +kernel) ⟨(Nat.le_of_ble_eq_true rfl), (Nat.le_of_ble_eq_true rfl)⟩) (g_pv0 hK hG hLd hKd) rfl rfl hl.1 rfl (lv_room (Nat.le_of_ble_eq_true rfl)) dX2_has_53 ⟨(Nat.le_of_ble_eq_true rfl), (Nat.le_of_ble_eq_true rfl)⟩) hG (fun y2 u H locs hp hG => ?_)
        have hp : y2 = bi (fitA α key part (-1) w) := by
          rw [hp]
          exact congrArg bi (fitA_of hR hwc)
        subst hp
        refine lv_if_eq (tgt := 61) hx hb dX2_has_56 (by decide) (fun c2 => ?_) (fun c2 => ?_)
        · have c2 := bi_0.mp c2
          have hlv : livA α r key part (-1) w = false := livA_f2 c2
          refine lv_iinc (v := (nI (w + 1))) (lv' := [(5, .int (nI (w + 1))), (0, .ref (ad 0)), (1, .int (nI r)), (2, .int key), (3, .int part), (4, .ref (ad (11 + 4 * r)))]) hx hb dX2_has_61 hl (k := 5) rfl (nI_1 w) (by decide) rfl (fun ls hl => ?_)
          refine lv_goto (tgt := 22) hx hb dX2_has_64 (by decide) ?_
          exact ih (w := w + 1) (hl := (lv_sub hl [1, 2, 3, 4, 5, 0] rfl)) (hG := hG) (inv := ⟨by omega, by rw [anyN_s, inv.2, hlv]; rfl⟩) (hf := by omega)
        · have c2 := ts_nf (fun z => c2 (bi_0.mpr z))
          have hlv : livA α r key part (-1) w = true := livA_t c1 c2
          refine lv_iconst (v := 1) hx hb dX2_has_59 (by decide) ?_
          refine vx_ret ?_
          refine W.widen (k := 12) (n := 100) (by omega) (by omega) ?_
          exact W.iret (v := 1) hx hb hr (fun t9 h9 hW9 => ⟨⟨1, r, rfl, ⟨⟨hr6, rfl⟩, ⟨⟨r, hr6, rfl⟩, hk16, hp32⟩, by rw [anyN_ge hlv hwc]; rfl⟩, hG.at h9⟩, hG.2.2.1.F h9⟩) hG.2.2.1.2.2 dX2_has_60
set_option maxHeartbeats 4000000 in
set_option maxRecDepth 100000 in
/-- sum -/
theorem c_sum (l : Launch) (G : gG) (base : Nat) {L : List Nat} {K n : Nat → Nat} {rI : Nat → Nat → Int32} {rJ : Nat → Nat → Int64} {rQ : Nat → Nat → Option Nat} {fI : Nat → Nat → Int32} {fR : Nat → Nat → Option Nat} (hl0 : l.stackTraces = false) {ad : Nat → Nat} {α : aT} (hR : RepX (L, K, n, rI, rJ, rQ, fI, fR) ad α) {i key : Int32} : vx_Met l yX2_sum wsX2_sum ({ frames := 7, cells := 12, slots := 100, locals := 111 }) (va_Pc [.ref (ad 0), .int i, .int key] (g_Px G base (L, K, n, rI, rJ, rQ, fI, fR))) (g_Ql G base (fun u : Nat => (L, K, n, rI, rJ, rQ, fI, fR)) (fun x u => (u < 6 ∧ i = nI u) ∧ (okI i 6 ∧ okI key 16) ∧ x = sumN (livA α u key (-1) (-1)) (a_val α) (a_cnt α))) (g_XC G base (L, K, n, rI, rJ, rQ, fI, fR) (fun E => E = "java/lang/IndexOutOfBoundsException" ∧ ¬ (okI i 6 ∧ okI key 16))) 12 100 (g_A base) := by
  have hDk : isDk L K n fR (ad 0) (ad 1) (ad 2) (ad 3) (ad 35) (ad 4) := hR.1.2.2.1
  have hD : isDt L K n fR (ad 3) (ad 5) (ad 6) (ad 7) (ad 8) (ad 9) (ad 10) := hR.1.2.2.2.1
  have hcnt : fI (ad 3) 6 = nI (a_cnt α) := hR.2.2.2.1.1
  have hmc : fI (ad 0) 5 = nI (a_nd α) := hR.2.1
  have hnd : a_nd α ≤ 250 := hR.1.1
  have hc250 : a_cnt α ≤ 250 := Nat.le_trans hR.2.2.1 hnd
  have hDk0 := hDk
  obtain ⟨hLx, hKx, h0x, h1x, h2x, h3x, h4x, hLra, hKra, hnra, hLma, hKma, hnma, hLod, hKod, hnod⟩ := hDk0
  have hD0 := hD
  obtain ⟨hLd, hKd, h0d, h1d, h2d, h3d, h4d, h5d, hLdr, hKdr, hndr, hLdn, hKdn, hndn, hLdk, hKdk, hndk, hLdp, hKdp, hndp, hLdv, hKdv, hndv, hLdg, hKdg, hndg⟩ := hD0
  have hgr : ∀ r, r < 6 → rI (ad 10) r = nI (a_g α r) ∧ a_g α r ≤ 100 := hR.2.2.2.1.2.1
  refine vx_ofW (cc := cX2_sum) (maxL := 7) (ret := (some .long)) (by decide) rfl ?_
  intro p e s m args below meth c s₁ B hml hnt hv
  obtain ⟨rfl, hPr, hX⟩ := hv
  have hx := B.exec
  have hb := B.bytes
  have hr := B.returns
  have hts := atoms_spec (ws := wsX2_sum) B.pre
  have hown : s.vm.findClass RX2 = some m.cls := findClass_of_methodNamed B.named
  have hlocks := B.notSynchronized
  have hin : meth.name = "sum" := (name_of_methodNamed B.named B.method).1
  have hK := hPr.2.2
  have hG := hPr.gw
  have hl := lv_entry ([.ref (ad 0), .int i, .int key]) (n := 7) (Nat.le_of_ble_eq_true rfl)
  rw [lg_entry_eq]
  generalize (lg_sl ([.ref (ad 0), .int i, .int key]) ++ List.replicate (7 - (lg_sl ([.ref (ad 0), .int i, .int key])).length) Slot.unset).toArray = ls at hl ⊢
  have hl : lv_has ls 7 [(0, .ref (ad 0)), (1, .int i), (2, .int key)] := hl
  refine g_start hPr (fun H locs hG => ?_)
  refine lv_aload_n hx hb dX2_sum_0 rfl (lv_at hl 0 rfl) ?_
  refine lv_iload_n hx hb dX2_sum_1 rfl (lv_at hl 1 rfl) ?_
  refine g_xr (vx_runV (As := [.int i]) (rest := []) ⟨hx, hb, hml, hown, hts⟩ (c_replicaAt l G base hl0 hDk (sa := fun r => ad (11 + 4 * r)) hR.1.2.2.2.2.2.1 (i := i)) (cwV 1 hts gX2_sum_X2_replicaAt rfl rfl rfl (by decide +kernel) ⟨(Nat.le_of_ble_eq_true rfl), (Nat.le_of_ble_eq_true rfl)⟩) (g_px2 hK hX hG hLx hKx) rfl rfl hl.1 rfl (lv_room (Nat.le_of_ble_eq_true rfl)) dX2_sum_2 ⟨(Nat.le_of_ble_eq_true rfl), (Nat.le_of_ble_eq_true rfl)⟩) hG (fun E ce q9 H locs hpx hG hce hcv hcl => ?_) (fun a0 r H locs hp hG => ?_)
  · exact g_out hnt hlocks hce hcv hcl ⟨hpx.1, fun z => hpx.2 z.1⟩ hG (by omega) (by omega)
  obtain ⟨hr6, rfl, ea⟩ := hp
  replace ea : a0 = ad (11 + 4 * r) := ea
  subst ea
  have hSr : isSt L K n fR (ad (11 + 4 * r)) (ad (12 + 4 * r)) (ad (13 + 4 * r)) (ad (14 + 4 * r)) := repX_st hR (show r < 7 + a_nd α by omega)
  have hS0 := hSr
  obtain ⟨hLar, hKar, h0ar, h1ar, h2ar, hLbr, hKbr, hnbr, hLcr, hKcr, hncr, hLer, hKer, hner⟩ := hS0
  refine lv_astore_n (lv' := [(3, .ref (ad (11 + 4 * r))), (0, .ref (ad 0)), (1, .int (nI r)), (2, .int key)]) hx hb dX2_sum_5 rfl hl (by decide) rfl (fun ls hl => ?_)
  refine lv_iload_n hx hb dX2_sum_6 rfl (lv_at hl 3 rfl) ?_
  refine lv_bipush (v := 16) hx hb dX2_sum_7 (by decide) ?_
  refine g_xv (vx_runS (As := [.int key, .int 16]) (rest := []) ⟨hx, hb, hml, hown, hts⟩ (c_requireIndex l G base hl0 (i := key) (b := 16)) (cwS 2 hts gX2_sum_X2_requireIndex rfl rfl rfl (by decide +kernel) ⟨(Nat.le_of_ble_eq_true rfl), (Nat.le_of_ble_eq_true rfl)⟩) (g_psx hK hX hG) rfl rfl hl.1 rfl (lv_room (Nat.le_of_ble_eq_true rfl)) dX2_sum_9 ⟨(Nat.le_of_ble_eq_true rfl), (Nat.le_of_ble_eq_true rfl)⟩) hG (fun E ce q9 H locs hpx hG hce hcv hcl => ?_) (fun _ H locs hp hG => ?_)
  · exact g_out hnt hlocks hce hcv hcl ⟨hpx.1, fun z => okI_no (by decide) hpx.2 z.2⟩ hG (by omega) (by omega)
  have hk16 : okI key 16 := okI_of (by decide) hp.1 hp.2
  refine lv_lconst (v := 0) hx hb dX2_sum_12 (by decide) ?_
  refine lv_lstore (lv' := [(4, .long 0), (3, .ref (ad (11 + 4 * r))), (0, .ref (ad 0)), (1, .int (nI r)), (2, .int key)]) hx hb dX2_sum_13 hl (by decide) rfl (fun ls hl => ?_)
  refine lv_iconst (v := 0) hx hb dX2_sum_15 (by decide) ?_
  refine lv_istore (lv' := [(6, .int 0), (4, .long 0), (3, .ref (ad (11 + 4 * r))), (0, .ref (ad 0)), (1, .int (nI r)), (2, .int key)]) hx hb dX2_sum_16 hl (by decide) rfl (fun ls hl => ?_)
  obtain ⟨w, ew⟩ : ∃ z : Nat, z = 0 := ⟨_, rfl⟩
  obtain ⟨tot, etot⟩ : ∃ z : Int64, z = 0 := ⟨_, rfl⟩
  replace hl : lv_has ls 7 [(0, .ref (ad 0)), (1, .int (nI r)), (2, .int key), (3, .ref (ad (11 + 4 * r))), (4, .long tot), (6, .int (nI w))] := by subst ew etot; exact (lv_sub hl [3, 4, 5, 2, 1, 0] rfl)
  have inv : w ≤ a_cnt α ∧ tot = sumN (livA α r key (-1) (-1)) (a_val α) w := by
    subst ew etot
    exact ⟨by omega, rfl⟩
  have hf : a_cnt α < w + 251 := by omega
  clear ew etot
  generalize 251 = d at hf
  induction d generalizing w tot H locs ls with
  | zero => exact absurd hf (by have := inv.1; omega)
  | succ d ih =>
    refine lv_iload hx hb dX2_sum_18 (lv_at hl 5 rfl) ?_
    refine lv_aload_n hx hb dX2_sum_20 rfl (lv_at hl 0 rfl) ?_
    refine r_Desk_dots hx hb hts (by decide +kernel) hown hK hG hLx hKx h2x (hts (.fieldLink RX2 21 "DotStores" "dots" "LDotStores$Dots;") (by decide +kernel)) dX2_sum_21 ?_
    refine r_Dots_count hx hb hts (by decide +kernel) hown hK hG hLd hKd (hts (.fieldLink RX2 108 "DotStores$Dots" "count" "I") (by decide +kernel)) dX2_sum_24 ?_
    refine lv_topi (fun z1 ez1 => ?_)
    obtain rfl : z1 = nI (a_cnt α) := ez1.trans (hcnt)
    refine lv_icmp_ge (tgt := 75) hx hb dX2_sum_27 (by decide) (fun c0 => ?_) (fun c0 => ?_)
    · have hwc : w = a_cnt α := Nat.le_antisymm inv.1 (nI_le_of (by omega) c0)
      refine lv_lload hx hb dX2_sum_75 (lv_at hl 4 rfl) ?_
      refine vx_ret ?_
      refine W.widen (k := 12) (n := 100) (by omega) (by omega) ?_
      exact W.lret (v := tot) hx hb hr (fun t9 h9 hW9 => ⟨⟨tot, r, rfl, ⟨⟨hr6, rfl⟩, ⟨⟨r, hr6, rfl⟩, hk16⟩, by subst hwc; exact inv.2⟩, hG.at h9⟩, hG.2.2.1.F h9⟩) hG.2.2.1.2.2 dX2_sum_77
    · have hwc : w < a_cnt α := nI_lt_of (by omega) c0
      refine lv_aload_n hx hb dX2_sum_30 rfl (lv_at hl 3 rfl) ?_
      refine lv_iload hx hb dX2_sum_31 (lv_at hl 5 rfl) ?_
      refine g_calli (va_runV (As := [.int (nI w)]) (rest := []) ⟨hx, hb, hml, hown, hts⟩ (c_isLive l G base hSr (i := w) (by omega)) (cwV 1 hts gX2_sum_X1_isLive rfl rfl rfl (by decide +kernel) ⟨(Nat.le_of_ble_eq_true rfl), (Nat.le_of_ble_eq_true rfl)⟩) (g_pv1 hK hG hLar hKar) rfl rfl hl.1 rfl (lv_room (Nat.le_of_ble_eq_true rfl)) dX2_sum_33 ⟨(Nat.le_of_ble_eq_true rfl), (Nat.le_of_ble_eq_true rfl)⟩) hG (fun y1 u H locs hp hG => ?_)
      have hp : y1 = bi (a_L α r w) := by
        rw [hp]
        exact congrArg bi ((hR.2.2.2.2 r (show r < 7 + a_nd α by omega)).1 w (by omega)).2
      subst hp
      refine lv_if_eq (tgt := 69) hx hb dX2_sum_36 (by decide) (fun c1 => ?_) (fun c1 => ?_)
      · have c1 := bi_0.mp c1
        have hlv : livA α r key (-1) (-1) w = false := livA_f1 c1
        refine lv_iinc (v := (nI (w + 1))) (lv' := [(6, .int (nI (w + 1))), (0, .ref (ad 0)), (1, .int (nI r)), (2, .int key), (3, .ref (ad (11 + 4 * r))), (4, .long tot)]) hx hb dX2_sum_69 hl (k := 5) rfl (nI_1 w) (by decide) rfl (fun ls hl => ?_)
        refine lv_goto (tgt := 18) hx hb dX2_sum_72 (by decide) ?_
        exact ih (w := w + 1) (tot := tot) (hl := (lv_sub hl [1, 2, 3, 4, 5, 0] rfl)) (hG := hG) (inv := ⟨by omega, by rw [sumN_f hlv]; exact inv.2⟩) (hf := by omega)
      · have c1 := ts_nf (fun z => c1 (bi_0.mpr z))
        refine lv_aload_n hx hb dX2_sum_39 rfl (lv_at hl 0 rfl) ?_
        refine r_Desk_dots hx hb hts (by decide +kernel) hown hK hG hLx hKx h2x (hts (.fieldLink RX2 21 "DotStores" "dots" "LDotStores$Dots;") (by decide +kernel)) dX2_sum_40 ?_
        refine lv_iload hx hb dX2_sum_43 (lv_at hl 5 rfl) ?_
        refine lv_iload_n hx hb dX2_sum_45 rfl (lv_at hl 2 rfl) ?_
        refine lv_iconst (v := (-1)) hx hb dX2_sum_46 (by decide) ?_
        refine lv_iconst (v := (-1)) hx hb dX2_sum_47 (by decide) ?_
        refine g_calli (va_runV (As := [.int (nI w), .int key, .int (-1), .int (-1)]) (rest := []) ⟨hx, hb, hml, hown, hts⟩ (c_fits l G base hD (i := w) (k := key) (q := (-1)) (r := (-1)) (by omega)) (cwV 4 hts gX2_sum_X0_fits rfl rfl rfl (by decide +kernel) ⟨(Nat.le_of_ble_eq_true rfl), (Nat.le_of_ble_eq_true rfl)⟩) (g_pv0 hK hG hLd hKd) rfl rfl hl.1 rfl (lv_room (Nat.le_of_ble_eq_true rfl)) dX2_sum_48 ⟨(Nat.le_of_ble_eq_true rfl), (Nat.le_of_ble_eq_true rfl)⟩) hG (fun y2 u H locs hp hG => ?_)
        have hp : y2 = bi (fitA α key (-1) (-1) w) := by
          rw [hp]
          exact congrArg bi (fitA_of hR hwc)
        subst hp
        refine lv_if_eq (tgt := 69) hx hb dX2_sum_51 (by decide) (fun c2 => ?_) (fun c2 => ?_)
        · have c2 := bi_0.mp c2
          have hlv : livA α r key (-1) (-1) w = false := livA_f2 c2
          refine lv_iinc (v := (nI (w + 1))) (lv' := [(6, .int (nI (w + 1))), (0, .ref (ad 0)), (1, .int (nI r)), (2, .int key), (3, .ref (ad (11 + 4 * r))), (4, .long tot)]) hx hb dX2_sum_69 hl (k := 5) rfl (nI_1 w) (by decide) rfl (fun ls hl => ?_)
          refine lv_goto (tgt := 18) hx hb dX2_sum_72 (by decide) ?_
          exact ih (w := w + 1) (tot := tot) (hl := (lv_sub hl [1, 2, 3, 4, 5, 0] rfl)) (hG := hG) (inv := ⟨by omega, by rw [sumN_f hlv]; exact inv.2⟩) (hf := by omega)
        · have c2 := ts_nf (fun z => c2 (bi_0.mpr z))
          have hlv : livA α r key (-1) (-1) w = true := livA_t c1 c2
          refine lv_lload hx hb dX2_sum_54 (lv_at hl 4 rfl) ?_
          refine lv_aload_n hx hb dX2_sum_56 rfl (lv_at hl 0 rfl) ?_
          refine r_Desk_dots hx hb hts (by decide +kernel) hown hK hG hLx hKx h2x (hts (.fieldLink RX2 21 "DotStores" "dots" "LDotStores$Dots;") (by decide +kernel)) dX2_sum_57 ?_
          refine r_Dots_value hx hb hts (by decide +kernel) hown hK hG hLd hKd h4d (hts (.fieldLink RX2 123 "DotStores$Dots" "value" "[J") (by decide +kernel)) dX2_sum_60 ?_
          refine lv_iload hx hb dX2_sum_63 (lv_at hl 5 rfl) ?_
          refine g_lald hx hb hK hG hLdv hKdv (w) rfl (by rw [hndv]; omega) (by rw [hndv]; decide) dX2_sum_65 ?_
          refine lv_topl (fun z2 ez2 => ?_)
          obtain rfl : z2 = a_val α w := ez2.trans ((hR.2.2.2.1.2.2 w hwc).2.2.2.2.2.2)
          refine lv_ladd hx hb dX2_sum_66 ?_
          refine lv_lstore (lv' := [(4, .long (tot + (a_val α w))), (0, .ref (ad 0)), (1, .int (nI r)), (2, .int key), (3, .ref (ad (11 + 4 * r))), (6, .int (nI w))]) hx hb dX2_sum_67 hl (by decide) rfl (fun ls hl => ?_)
          refine lv_iinc (v := (nI (w + 1))) (lv' := [(6, .int (nI (w + 1))), (4, .long (tot + (a_val α w))), (0, .ref (ad 0)), (1, .int (nI r)), (2, .int key), (3, .ref (ad (11 + 4 * r)))]) hx hb dX2_sum_69 hl (k := 5) rfl (nI_1 w) (by decide) rfl (fun ls hl => ?_)
          refine lv_goto (tgt := 18) hx hb dX2_sum_72 (by decide) ?_
          exact ih (w := w + 1) (hl := (lv_sub hl [2, 3, 4, 5, 1, 0] rfl)) (hG := hG) (inv := ⟨by omega, by rw [sumN_t hlv, inv.2]⟩) (hf := by omega)
set_option maxHeartbeats 4000000 in
set_option maxRecDepth 100000 in
/-- keys -/
theorem c_keys (l : Launch) (G : gG) (base : Nat) {L : List Nat} {K n : Nat → Nat} {rI : Nat → Nat → Int32} {rJ : Nat → Nat → Int64} {rQ : Nat → Nat → Option Nat} {fI : Nat → Nat → Int32} {fR : Nat → Nat → Option Nat} (hl0 : l.stackTraces = false) {ad : Nat → Nat} {α : aT} (hR : RepX (L, K, n, rI, rJ, rQ, fI, fR) ad α) {i : Int32} : vx_Met l yX2_keys wsX2_keys ({ frames := 7, cells := 12, slots := 100, locals := 111 }) (va_Pc [.ref (ad 0), .int i] (g_Px G base (L, K, n, rI, rJ, rQ, fI, fR))) (g_Qi G base (fun u : Nat => (L, K, n, rI, rJ, rQ, fI, fR)) (fun x u => (u < 6 ∧ i = nI u) ∧ x = orK (a_L α u) (a_key α) (a_cnt α))) (g_XC G base (L, K, n, rI, rJ, rQ, fI, fR) (fun E => E = "java/lang/IndexOutOfBoundsException" ∧ ¬ okI i 6)) 12 100 (g_A base) := by
  have hDk : isDk L K n fR (ad 0) (ad 1) (ad 2) (ad 3) (ad 35) (ad 4) := hR.1.2.2.1
  have hD : isDt L K n fR (ad 3) (ad 5) (ad 6) (ad 7) (ad 8) (ad 9) (ad 10) := hR.1.2.2.2.1
  have hcnt : fI (ad 3) 6 = nI (a_cnt α) := hR.2.2.2.1.1
  have hmc : fI (ad 0) 5 = nI (a_nd α) := hR.2.1
  have hnd : a_nd α ≤ 250 := hR.1.1
  have hc250 : a_cnt α ≤ 250 := Nat.le_trans hR.2.2.1 hnd
  have hDk0 := hDk
  obtain ⟨hLx, hKx, h0x, h1x, h2x, h3x, h4x, hLra, hKra, hnra, hLma, hKma, hnma, hLod, hKod, hnod⟩ := hDk0
  have hD0 := hD
  obtain ⟨hLd, hKd, h0d, h1d, h2d, h3d, h4d, h5d, hLdr, hKdr, hndr, hLdn, hKdn, hndn, hLdk, hKdk, hndk, hLdp, hKdp, hndp, hLdv, hKdv, hndv, hLdg, hKdg, hndg⟩ := hD0
  have hgr : ∀ r, r < 6 → rI (ad 10) r = nI (a_g α r) ∧ a_g α r ≤ 100 := hR.2.2.2.1.2.1
  refine vx_ofW (cc := cX2_keys) (maxL := 5) (ret := (some .int)) (by decide) rfl ?_
  intro p e s m args below meth c s₁ B hml hnt hv
  obtain ⟨rfl, hPr, hX⟩ := hv
  have hx := B.exec
  have hb := B.bytes
  have hr := B.returns
  have hts := atoms_spec (ws := wsX2_keys) B.pre
  have hown : s.vm.findClass RX2 = some m.cls := findClass_of_methodNamed B.named
  have hlocks := B.notSynchronized
  have hin : meth.name = "keys" := (name_of_methodNamed B.named B.method).1
  have hK := hPr.2.2
  have hG := hPr.gw
  have hl := lv_entry ([.ref (ad 0), .int i]) (n := 5) (Nat.le_of_ble_eq_true rfl)
  rw [lg_entry_eq]
  generalize (lg_sl ([.ref (ad 0), .int i]) ++ List.replicate (5 - (lg_sl ([.ref (ad 0), .int i])).length) Slot.unset).toArray = ls at hl ⊢
  have hl : lv_has ls 5 [(0, .ref (ad 0)), (1, .int i)] := hl
  refine g_start hPr (fun H locs hG => ?_)
  refine lv_aload_n hx hb dX2_keys_0 rfl (lv_at hl 0 rfl) ?_
  refine lv_iload_n hx hb dX2_keys_1 rfl (lv_at hl 1 rfl) ?_
  refine g_xr (vx_runV (As := [.int i]) (rest := []) ⟨hx, hb, hml, hown, hts⟩ (c_replicaAt l G base hl0 hDk (sa := fun r => ad (11 + 4 * r)) hR.1.2.2.2.2.2.1 (i := i)) (cwV 1 hts gX2_keys_X2_replicaAt rfl rfl rfl (by decide +kernel) ⟨(Nat.le_of_ble_eq_true rfl), (Nat.le_of_ble_eq_true rfl)⟩) (g_px2 hK hX hG hLx hKx) rfl rfl hl.1 rfl (lv_room (Nat.le_of_ble_eq_true rfl)) dX2_keys_2 ⟨(Nat.le_of_ble_eq_true rfl), (Nat.le_of_ble_eq_true rfl)⟩) hG (fun E ce q9 H locs hpx hG hce hcv hcl => ?_) (fun a0 r H locs hp hG => ?_)
  · exact g_out hnt hlocks hce hcv hcl hpx hG (by omega) (by omega)
  obtain ⟨hr6, rfl, ea⟩ := hp
  replace ea : a0 = ad (11 + 4 * r) := ea
  subst ea
  have hSr : isSt L K n fR (ad (11 + 4 * r)) (ad (12 + 4 * r)) (ad (13 + 4 * r)) (ad (14 + 4 * r)) := repX_st hR (show r < 7 + a_nd α by omega)
  have hS0 := hSr
  obtain ⟨hLar, hKar, h0ar, h1ar, h2ar, hLbr, hKbr, hnbr, hLcr, hKcr, hncr, hLer, hKer, hner⟩ := hS0
  refine lv_astore_n (lv' := [(2, .ref (ad (11 + 4 * r))), (0, .ref (ad 0)), (1, .int (nI r))]) hx hb dX2_keys_5 rfl hl (by decide) rfl (fun ls hl => ?_)
  refine lv_iconst (v := 0) hx hb dX2_keys_6 (by decide) ?_
  refine lv_istore_n (lv' := [(3, .int 0), (2, .ref (ad (11 + 4 * r))), (0, .ref (ad 0)), (1, .int (nI r))]) hx hb dX2_keys_7 rfl hl (by decide) rfl (fun ls hl => ?_)
  refine lv_iconst (v := 0) hx hb dX2_keys_8 (by decide) ?_
  refine lv_istore (lv' := [(4, .int 0), (3, .int 0), (2, .ref (ad (11 + 4 * r))), (0, .ref (ad 0)), (1, .int (nI r))]) hx hb dX2_keys_9 hl (by decide) rfl (fun ls hl => ?_)
  obtain ⟨w, ew⟩ : ∃ z : Nat, z = 0 := ⟨_, rfl⟩
  obtain ⟨ks, eks⟩ : ∃ z : Int32, z = 0 := ⟨_, rfl⟩
  replace hl : lv_has ls 5 [(0, .ref (ad 0)), (1, .int (nI r)), (2, .ref (ad (11 + 4 * r))), (3, .int ks), (4, .int (nI w))] := by subst ew eks; exact (lv_sub hl [3, 4, 2, 1, 0] rfl)
  have inv : w ≤ a_cnt α ∧ ks = orK (a_L α r) (a_key α) w := by
    subst ew eks
    exact ⟨by omega, rfl⟩
  have hf : a_cnt α < w + 251 := by omega
  clear ew eks
  generalize 251 = d at hf
  induction d generalizing w ks H locs ls with
  | zero => exact absurd hf (by have := inv.1; omega)
  | succ d ih =>
    refine lv_iload hx hb dX2_keys_11 (lv_at hl 4 rfl) ?_
    refine lv_aload_n hx hb dX2_keys_13 rfl (lv_at hl 0 rfl) ?_
    refine r_Desk_dots hx hb hts (by decide +kernel) hown hK hG hLx hKx h2x (hts (.fieldLink RX2 21 "DotStores" "dots" "LDotStores$Dots;") (by decide +kernel)) dX2_keys_14 ?_
    refine r_Dots_count hx hb hts (by decide +kernel) hown hK hG hLd hKd (hts (.fieldLink RX2 108 "DotStores$Dots" "count" "I") (by decide +kernel)) dX2_keys_17 ?_
    refine lv_topi (fun z1 ez1 => ?_)
    obtain rfl : z1 = nI (a_cnt α) := ez1.trans (hcnt)
    refine lv_icmp_ge (tgt := 53) hx hb dX2_keys_20 (by decide) (fun c0 => ?_) (fun c0 => ?_)
    · have hwc : w = a_cnt α := Nat.le_antisymm inv.1 (nI_le_of (by omega) c0)
      refine lv_iload_n hx hb dX2_keys_53 rfl (lv_at hl 3 rfl) ?_
      refine vx_ret ?_
      refine W.widen (k := 12) (n := 100) (by omega) (by omega) ?_
      exact W.iret (v := ks) hx hb hr (fun t9 h9 hW9 => ⟨⟨ks, r, rfl, ⟨⟨hr6, rfl⟩, by subst hwc; exact inv.2⟩, hG.at h9⟩, hG.2.2.1.F h9⟩) hG.2.2.1.2.2 dX2_keys_54
    · have hwc : w < a_cnt α := nI_lt_of (by omega) c0
      refine lv_aload_n hx hb dX2_keys_23 rfl (lv_at hl 2 rfl) ?_
      refine lv_iload hx hb dX2_keys_24 (lv_at hl 4 rfl) ?_
      refine g_calli (va_runV (As := [.int (nI w)]) (rest := []) ⟨hx, hb, hml, hown, hts⟩ (c_isLive l G base hSr (i := w) (by omega)) (cwV 1 hts gX2_keys_X1_isLive rfl rfl rfl (by decide +kernel) ⟨(Nat.le_of_ble_eq_true rfl), (Nat.le_of_ble_eq_true rfl)⟩) (g_pv1 hK hG hLar hKar) rfl rfl hl.1 rfl (lv_room (Nat.le_of_ble_eq_true rfl)) dX2_keys_26 ⟨(Nat.le_of_ble_eq_true rfl), (Nat.le_of_ble_eq_true rfl)⟩) hG (fun y1 u H locs hp hG => ?_)
      have hp : y1 = bi (a_L α r w) := by
        rw [hp]
        exact congrArg bi ((hR.2.2.2.2 r (show r < 7 + a_nd α by omega)).1 w (by omega)).2
      subst hp
      refine lv_if_eq (tgt := 47) hx hb dX2_keys_29 (by decide) (fun c1 => ?_) (fun c1 => ?_)
      · have c1 := bi_0.mp c1
        refine lv_iinc (v := (nI (w + 1))) (lv' := [(4, .int (nI (w + 1))), (0, .ref (ad 0)), (1, .int (nI r)), (2, .ref (ad (11 + 4 * r))), (3, .int ks)]) hx hb dX2_keys_47 hl (k := 4) rfl (nI_1 w) (by decide) rfl (fun ls hl => ?_)
        refine lv_goto (tgt := 11) hx hb dX2_keys_50 (by decide) ?_
        exact ih (w := w + 1) (ks := ks) (hl := (lv_sub hl [1, 2, 3, 4, 0] rfl)) (hG := hG) (inv := ⟨by omega, by rw [orK_f c1]; exact inv.2⟩) (hf := by omega)
      · have c1 := ts_nf (fun z => c1 (bi_0.mpr z))
        refine lv_iload_n hx hb dX2_keys_32 rfl (lv_at hl 3 rfl) ?_
        refine lv_iconst (v := 1) hx hb dX2_keys_33 (by decide) ?_
        refine lv_aload_n hx hb dX2_keys_34 rfl (lv_at hl 0 rfl) ?_
        refine r_Desk_dots hx hb hts (by decide +kernel) hown hK hG hLx hKx h2x (hts (.fieldLink RX2 21 "DotStores" "dots" "LDotStores$Dots;") (by decide +kernel)) dX2_keys_35 ?_
        refine r_Dots_key hx hb hts (by decide +kernel) hown hK hG hLd hKd h2d (hts (.fieldLink RX2 126 "DotStores$Dots" "key" "[I") (by decide +kernel)) dX2_keys_38 ?_
        refine lv_iload hx hb dX2_keys_41 (lv_at hl 4 rfl) ?_
        refine g_iald hx hb hK hG hLdk hKdk (w) rfl (by rw [hndk]; omega) (by rw [hndk]; decide) dX2_keys_43 ?_
        refine lv_topi (fun z2 ez2 => ?_)
        obtain rfl : z2 = a_key α w := ez2.trans ((hR.2.2.2.1.2.2 w hwc).2.2.2.2.1)
        refine lv_ishl hx hb dX2_keys_44 ?_
        refine lv_ior hx hb dX2_keys_45 ?_
        refine lv_istore_n (lv' := [(3, .int (ks ||| (1 <<< ((a_key α w) &&& 31)))), (0, .ref (ad 0)), (1, .int (nI r)), (2, .ref (ad (11 + 4 * r))), (4, .int (nI w))]) hx hb dX2_keys_46 rfl hl (by decide) rfl (fun ls hl => ?_)
        refine lv_iinc (v := (nI (w + 1))) (lv' := [(4, .int (nI (w + 1))), (3, .int (ks ||| (1 <<< ((a_key α w) &&& 31)))), (0, .ref (ad 0)), (1, .int (nI r)), (2, .ref (ad (11 + 4 * r)))]) hx hb dX2_keys_47 hl (k := 4) rfl (nI_1 w) (by decide) rfl (fun ls hl => ?_)
        refine lv_goto (tgt := 11) hx hb dX2_keys_50 (by decide) ?_
        exact ih (w := w + 1) (hl := (lv_sub hl [2, 3, 4, 1, 0] rfl)) (hG := hG) (inv := ⟨by omega, by rw [orK_t c1, inv.2]⟩) (hf := by omega)
set_option maxHeartbeats 4000000 in
set_option maxRecDepth 100000 in
/-- inTwice -/
theorem c_inTwice (l : Launch) (G : gG) (base : Nat) {L : List Nat} {K n : Nat → Nat} {rI : Nat → Nat → Int32} {rJ : Nat → Nat → Int64} {rQ : Nat → Nat → Option Nat} {fI : Nat → Nat → Int32} {fR : Nat → Nat → Option Nat} (hl0 : l.stackTraces = false) {ad : Nat → Nat} {α : aT} (hR : RepX (L, K, n, rI, rJ, rQ, fI, fR) ad α) {i el : Int32} : vx_Met l yX2_inTwice wsX2_inTwice ({ frames := 7, cells := 12, slots := 100, locals := 111 }) (va_Pc [.ref (ad 0), .int i, .int el] (g_Px G base (L, K, n, rI, rJ, rQ, fI, fR))) (g_Qi G base (fun u : Nat × Nat => (L, K, n, rI, rJ, rQ, fI, fR)) (fun x u => (u.1 < 6 ∧ i = nI u.1) ∧ (u.2 < 32 ∧ el = nI u.2) ∧ x = ((a_P α u.1 &&& (a_T α u.1 ^^^ (-1))).toUInt32 >>> ((nI u.2).toUInt32 &&& Int32.toUInt32 31)).toInt32 &&& 1)) (g_XC G base (L, K, n, rI, rJ, rQ, fI, fR) (fun E => E = "java/lang/IndexOutOfBoundsException" ∧ ¬ (okI i 6 ∧ okI el 32))) 12 100 (g_A base) := by
  have hDk : isDk L K n fR (ad 0) (ad 1) (ad 2) (ad 3) (ad 35) (ad 4) := hR.1.2.2.1
  have hD : isDt L K n fR (ad 3) (ad 5) (ad 6) (ad 7) (ad 8) (ad 9) (ad 10) := hR.1.2.2.2.1
  have hcnt : fI (ad 3) 6 = nI (a_cnt α) := hR.2.2.2.1.1
  have hmc : fI (ad 0) 5 = nI (a_nd α) := hR.2.1
  have hnd : a_nd α ≤ 250 := hR.1.1
  have hc250 : a_cnt α ≤ 250 := Nat.le_trans hR.2.2.1 hnd
  have hDk0 := hDk
  obtain ⟨hLx, hKx, h0x, h1x, h2x, h3x, h4x, hLra, hKra, hnra, hLma, hKma, hnma, hLod, hKod, hnod⟩ := hDk0
  have hD0 := hD
  obtain ⟨hLd, hKd, h0d, h1d, h2d, h3d, h4d, h5d, hLdr, hKdr, hndr, hLdn, hKdn, hndn, hLdk, hKdk, hndk, hLdp, hKdp, hndp, hLdv, hKdv, hndv, hLdg, hKdg, hndg⟩ := hD0
  have hgr : ∀ r, r < 6 → rI (ad 10) r = nI (a_g α r) ∧ a_g α r ≤ 100 := hR.2.2.2.1.2.1
  refine vx_ofW (cc := cX2_inTwice) (maxL := 4) (ret := (some .int)) (by decide) rfl ?_
  intro p e s m args below meth c s₁ B hml hnt hv
  obtain ⟨rfl, hPr, hX⟩ := hv
  have hx := B.exec
  have hb := B.bytes
  have hr := B.returns
  have hts := atoms_spec (ws := wsX2_inTwice) B.pre
  have hown : s.vm.findClass RX2 = some m.cls := findClass_of_methodNamed B.named
  have hlocks := B.notSynchronized
  have hin : meth.name = "inTwice" := (name_of_methodNamed B.named B.method).1
  have hK := hPr.2.2
  have hG := hPr.gw
  have hl := lv_entry ([.ref (ad 0), .int i, .int el]) (n := 4) (Nat.le_of_ble_eq_true rfl)
  rw [lg_entry_eq]
  generalize (lg_sl ([.ref (ad 0), .int i, .int el]) ++ List.replicate (4 - (lg_sl ([.ref (ad 0), .int i, .int el])).length) Slot.unset).toArray = ls at hl ⊢
  have hl : lv_has ls 4 [(0, .ref (ad 0)), (1, .int i), (2, .int el)] := hl
  refine g_start hPr (fun H locs hG => ?_)
  refine lv_aload_n hx hb dX2_inTwice_0 rfl (lv_at hl 0 rfl) ?_
  refine lv_iload_n hx hb dX2_inTwice_1 rfl (lv_at hl 1 rfl) ?_
  refine g_xr (vx_runV (As := [.int i]) (rest := []) ⟨hx, hb, hml, hown, hts⟩ (c_replicaAt l G base hl0 hDk (sa := fun r => ad (11 + 4 * r)) hR.1.2.2.2.2.2.1 (i := i)) (cwV 1 hts gX2_inTwice_X2_replicaAt rfl rfl rfl (by decide +kernel) ⟨(Nat.le_of_ble_eq_true rfl), (Nat.le_of_ble_eq_true rfl)⟩) (g_px2 hK hX hG hLx hKx) rfl rfl hl.1 rfl (lv_room (Nat.le_of_ble_eq_true rfl)) dX2_inTwice_2 ⟨(Nat.le_of_ble_eq_true rfl), (Nat.le_of_ble_eq_true rfl)⟩) hG (fun E ce q9 H locs hpx hG hce hcv hcl => ?_) (fun a0 r H locs hp hG => ?_)
  · exact g_out hnt hlocks hce hcv hcl ⟨hpx.1, fun z => hpx.2 z.1⟩ hG (by omega) (by omega)
  obtain ⟨hr6, rfl, ea⟩ := hp
  replace ea : a0 = ad (11 + 4 * r) := ea
  subst ea
  have hSr : isSt L K n fR (ad (11 + 4 * r)) (ad (12 + 4 * r)) (ad (13 + 4 * r)) (ad (14 + 4 * r)) := repX_st hR (show r < 7 + a_nd α by omega)
  have hS0 := hSr
  obtain ⟨hLar, hKar, h0ar, h1ar, h2ar, hLbr, hKbr, hnbr, hLcr, hKcr, hncr, hLer, hKer, hner⟩ := hS0
  refine lv_astore_n (lv' := [(3, .ref (ad (11 + 4 * r))), (0, .ref (ad 0)), (1, .int (nI r)), (2, .int el)]) hx hb dX2_inTwice_5 rfl hl (by decide) rfl (fun ls hl => ?_)
  refine lv_iload_n hx hb dX2_inTwice_6 rfl (lv_at hl 3 rfl) ?_
  refine lv_bipush (v := 32) hx hb dX2_inTwice_7 (by decide) ?_
  refine g_xv (vx_runS (As := [.int el, .int 32]) (rest := []) ⟨hx, hb, hml, hown, hts⟩ (c_requireIndex l G base hl0 (i := el) (b := 32)) (cwS 2 hts gX2_inTwice_X2_requireIndex rfl rfl rfl (by decide +kernel) ⟨(Nat.le_of_ble_eq_true rfl), (Nat.le_of_ble_eq_true rfl)⟩) (g_psx hK hX hG) rfl rfl hl.1 rfl (lv_room (Nat.le_of_ble_eq_true rfl)) dX2_inTwice_9 ⟨(Nat.le_of_ble_eq_true rfl), (Nat.le_of_ble_eq_true rfl)⟩) hG (fun E ce q9 H locs hpx hG hce hcv hcl => ?_) (fun _ H locs hp hG => ?_)
  · exact g_out hnt hlocks hce hcv hcl ⟨hpx.1, fun z => okI_no (by decide) hpx.2 z.2⟩ hG (by omega) (by omega)
  obtain ⟨ee, he32, rfl⟩ := okI_of (N := 32) (by decide) hp.1 hp.2
  refine lv_aload_n hx hb dX2_inTwice_12 rfl (lv_at hl 0 rfl) ?_
  refine r_State_put hx hb hts (by decide +kernel) hown hK hG hLar hKar (hts (.fieldLink RX2 76 "DotStores$State" "put" "I") (by decide +kernel)) dX2_inTwice_13 ?_
  refine lv_topi (fun z1 ez1 => ?_)
  obtain rfl : z1 = a_P α r := ez1.trans ((hR.2.2.2.2 r (by omega)).2.1)
  refine lv_aload_n hx hb dX2_inTwice_16 rfl (lv_at hl 0 rfl) ?_
  refine r_State_taken hx hb hts (by decide +kernel) hown hK hG hLar hKar (hts (.fieldLink RX2 79 "DotStores$State" "taken" "I") (by decide +kernel)) dX2_inTwice_17 ?_
  refine lv_topi (fun z2 ez2 => ?_)
  obtain rfl : z2 = a_T α r := ez2.trans ((hR.2.2.2.2 r (by omega)).2.2.1)
  refine lv_iconst (v := (-1)) hx hb dX2_inTwice_20 (by decide) ?_
  refine lv_ixor hx hb dX2_inTwice_21 ?_
  refine lv_iand hx hb dX2_inTwice_22 ?_
  refine lv_iload_n hx hb dX2_inTwice_23 rfl (lv_at hl 3 rfl) ?_
  refine lv_iushr hx hb dX2_inTwice_24 rfl ?_
  refine lv_iconst (v := 1) hx hb dX2_inTwice_25 (by decide) ?_
  refine lv_iand hx hb dX2_inTwice_26 ?_
  refine vx_ret ?_
  refine W.widen (k := 12) (n := 100) (by omega) (by omega) ?_
  exact W.iret (v := (((((a_P α r) &&& ((a_T α r) ^^^ (-1)))).toUInt32 >>> (((nI ee)).toUInt32 &&& Int32.toUInt32 31)).toInt32 &&& 1)) hx hb hr (fun t9 h9 hW9 => ⟨⟨(((((a_P α r) &&& ((a_T α r) ^^^ (-1)))).toUInt32 >>> (((nI ee)).toUInt32 &&& Int32.toUInt32 31)).toInt32 &&& 1), (r, ee), rfl, ⟨⟨hr6, rfl⟩, ⟨he32, rfl⟩, rfl⟩, hG.at h9⟩, hG.2.2.1.F h9⟩) hG.2.2.1.2.2 dX2_inTwice_27
/-- what inTimed answers of a stamp -/
def timA (st wh : Int32) : Int32 := (if wh = 0 then bi (decide (0 < st ∧ (st - 1) - (st - 1) / 2 * 2 = 1)) else if st = 0 then -1 else if wh = 1 then (st - 1) / 2 / 6 else (st - 1) / 2 - (st - 1) / 2 / 6 * 6)
set_option maxHeartbeats 4000000 in
set_option maxRecDepth 100000 in
/-- inTimed -/
theorem c_inTimed (l : Launch) (G : gG) (base : Nat) {L : List Nat} {K n : Nat → Nat} {rI : Nat → Nat → Int32} {rJ : Nat → Nat → Int64} {rQ : Nat → Nat → Option Nat} {fI : Nat → Nat → Int32} {fR : Nat → Nat → Option Nat} (hl0 : l.stackTraces = false) {ad : Nat → Nat} {α : aT} (hR : RepX (L, K, n, rI, rJ, rQ, fI, fR) ad α) {i el wh : Int32} : vx_Met l yX2_inTimed wsX2_inTimed ({ frames := 7, cells := 12, slots := 100, locals := 111 }) (va_Pc [.ref (ad 0), .int i, .int el, .int wh] (g_Px G base (L, K, n, rI, rJ, rQ, fI, fR))) (g_Qi G base (fun u : Nat × Nat => (L, K, n, rI, rJ, rQ, fI, fR)) (fun x u => (u.1 < 6 ∧ i = nI u.1) ∧ (u.2 < 32 ∧ el = nI u.2) ∧ okI wh 3 ∧ x = timA (a_M α u.1 u.2) wh)) (g_XC G base (L, K, n, rI, rJ, rQ, fI, fR) (fun E => E = "java/lang/IndexOutOfBoundsException" ∧ ¬ (okI i 6 ∧ okI el 32 ∧ okI wh 3))) 12 100 (g_A base) := by
  have hDk : isDk L K n fR (ad 0) (ad 1) (ad 2) (ad 3) (ad 35) (ad 4) := hR.1.2.2.1
  have hD : isDt L K n fR (ad 3) (ad 5) (ad 6) (ad 7) (ad 8) (ad 9) (ad 10) := hR.1.2.2.2.1
  have hcnt : fI (ad 3) 6 = nI (a_cnt α) := hR.2.2.2.1.1
  have hmc : fI (ad 0) 5 = nI (a_nd α) := hR.2.1
  have hnd : a_nd α ≤ 250 := hR.1.1
  have hc250 : a_cnt α ≤ 250 := Nat.le_trans hR.2.2.1 hnd
  have hDk0 := hDk
  obtain ⟨hLx, hKx, h0x, h1x, h2x, h3x, h4x, hLra, hKra, hnra, hLma, hKma, hnma, hLod, hKod, hnod⟩ := hDk0
  have hD0 := hD
  obtain ⟨hLd, hKd, h0d, h1d, h2d, h3d, h4d, h5d, hLdr, hKdr, hndr, hLdn, hKdn, hndn, hLdk, hKdk, hndk, hLdp, hKdp, hndp, hLdv, hKdv, hndv, hLdg, hKdg, hndg⟩ := hD0
  have hgr : ∀ r, r < 6 → rI (ad 10) r = nI (a_g α r) ∧ a_g α r ≤ 100 := hR.2.2.2.1.2.1
  refine vx_ofW (cc := cX2_inTimed) (maxL := 6) (ret := (some .int)) (by decide) rfl ?_
  intro p e s m args below meth c s₁ B hml hnt hv
  obtain ⟨rfl, hPr, hX⟩ := hv
  have hx := B.exec
  have hb := B.bytes
  have hr := B.returns
  have hts := atoms_spec (ws := wsX2_inTimed) B.pre
  have hown : s.vm.findClass RX2 = some m.cls := findClass_of_methodNamed B.named
  have hlocks := B.notSynchronized
  have hin : meth.name = "inTimed" := (name_of_methodNamed B.named B.method).1
  have hK := hPr.2.2
  have hG := hPr.gw
  have hl := lv_entry ([.ref (ad 0), .int i, .int el, .int wh]) (n := 6) (Nat.le_of_ble_eq_true rfl)
  rw [lg_entry_eq]
  generalize (lg_sl ([.ref (ad 0), .int i, .int el, .int wh]) ++ List.replicate (6 - (lg_sl ([.ref (ad 0), .int i, .int el, .int wh])).length) Slot.unset).toArray = ls at hl ⊢
  have hl : lv_has ls 6 [(0, .ref (ad 0)), (1, .int i), (2, .int el), (3, .int wh)] := hl
  refine g_start hPr (fun H locs hG => ?_)
  refine lv_aload_n hx hb dX2_inTimed_0 rfl (lv_at hl 0 rfl) ?_
  refine lv_iload_n hx hb dX2_inTimed_1 rfl (lv_at hl 1 rfl) ?_
  refine g_xr (vx_runV (As := [.int i]) (rest := []) ⟨hx, hb, hml, hown, hts⟩ (c_replicaAt l G base hl0 hDk (sa := fun r => ad (11 + 4 * r)) hR.1.2.2.2.2.2.1 (i := i)) (cwV 1 hts gX2_inTimed_X2_replicaAt rfl rfl rfl (by decide +kernel) ⟨(Nat.le_of_ble_eq_true rfl), (Nat.le_of_ble_eq_true rfl)⟩) (g_px2 hK hX hG hLx hKx) rfl rfl hl.1 rfl (lv_room (Nat.le_of_ble_eq_true rfl)) dX2_inTimed_2 ⟨(Nat.le_of_ble_eq_true rfl), (Nat.le_of_ble_eq_true rfl)⟩) hG (fun E ce q9 H locs hpx hG hce hcv hcl => ?_) (fun a0 r H locs hp hG => ?_)
  · exact g_out hnt hlocks hce hcv hcl ⟨hpx.1, fun z => hpx.2 z.1⟩ hG (by omega) (by omega)
  obtain ⟨hr6, rfl, ea⟩ := hp
  replace ea : a0 = ad (11 + 4 * r) := ea
  subst ea
  have hSr : isSt L K n fR (ad (11 + 4 * r)) (ad (12 + 4 * r)) (ad (13 + 4 * r)) (ad (14 + 4 * r)) := repX_st hR (show r < 7 + a_nd α by omega)
  have hS0 := hSr
  obtain ⟨hLar, hKar, h0ar, h1ar, h2ar, hLbr, hKbr, hnbr, hLcr, hKcr, hncr, hLer, hKer, hner⟩ := hS0
  refine lv_astore (lv' := [(4, .ref (ad (11 + 4 * r))), (0, .ref (ad 0)), (1, .int (nI r)), (2, .int el), (3, .int wh)]) hx hb dX2_inTimed_5 hl (by decide) rfl (fun ls hl => ?_)
  refine lv_iload_n hx hb dX2_inTimed_7 rfl (lv_at hl 3 rfl) ?_
  refine lv_bipush (v := 32) hx hb dX2_inTimed_8 (by decide) ?_
  refine g_xv (vx_runS (As := [.int el, .int 32]) (rest := []) ⟨hx, hb, hml, hown, hts⟩ (c_requireIndex l G base hl0 (i := el) (b := 32)) (cwS 2 hts gX2_inTimed_X2_requireIndex rfl rfl rfl (by decide +kernel) ⟨(Nat.le_of_ble_eq_true rfl), (Nat.le_of_ble_eq_true rfl)⟩) (g_psx hK hX hG) rfl rfl hl.1 rfl (lv_room (Nat.le_of_ble_eq_true rfl)) dX2_inTimed_10 ⟨(Nat.le_of_ble_eq_true rfl), (Nat.le_of_ble_eq_true rfl)⟩) hG (fun E ce q9 H locs hpx hG hce hcv hcl => ?_) (fun _ H locs hp hG => ?_)
  · exact g_out hnt hlocks hce hcv hcl ⟨hpx.1, fun z => okI_no (by decide) hpx.2 z.2.1⟩ hG (by omega) (by omega)
  obtain ⟨ee, he32, rfl⟩ := okI_of (N := 32) (by decide) hp.1 hp.2
  refine lv_iload_n hx hb dX2_inTimed_13 rfl (lv_at hl 4 rfl) ?_
  refine lv_iconst (v := 3) hx hb dX2_inTimed_14 (by decide) ?_
  refine g_xv (vx_runS (As := [.int wh, .int 3]) (rest := []) ⟨hx, hb, hml, hown, hts⟩ (c_requireIndex l G base hl0 (i := wh) (b := 3)) (cwS 2 hts gX2_inTimed_X2_requireIndex rfl rfl rfl (by decide +kernel) ⟨(Nat.le_of_ble_eq_true rfl), (Nat.le_of_ble_eq_true rfl)⟩) (g_psx hK hX hG) rfl rfl hl.1 rfl (lv_room (Nat.le_of_ble_eq_true rfl)) dX2_inTimed_15 ⟨(Nat.le_of_ble_eq_true rfl), (Nat.le_of_ble_eq_true rfl)⟩) hG (fun E ce q9 H locs hpx hG hce hcv hcl => ?_) (fun _ H locs hp hG => ?_)
  · exact g_out hnt hlocks hce hcv hcl ⟨hpx.1, fun z => okI_no (by decide) hpx.2 z.2.2⟩ hG (by omega) (by omega)
  have hw3 : okI wh 3 := okI_of (by decide) hp.1 hp.2
  refine lv_aload hx hb dX2_inTimed_18 (lv_at hl 0 rfl) ?_
  refine r_State_stamps hx hb hts (by decide +kernel) hown hK hG hLar hKar h2ar (hts (.fieldLink RX2 85 "DotStores$State" "stamps" "[I") (by decide +kernel)) dX2_inTimed_20 ?_
  refine lv_iload_n hx hb dX2_inTimed_23 rfl (lv_at hl 3 rfl) ?_
  refine g_iald hx hb hK hG hLer hKer (ee) rfl (by rw [hner]; exact he32) (by rw [hner]; decide) dX2_inTimed_24 ?_
  refine lv_topi (fun z1 ez1 => ?_)
  obtain rfl : z1 = a_M α r ee := ez1.trans ((hR.2.2.2.2 r (by omega)).2.2.2 ee he32)
  refine lv_istore (lv' := [(5, .int (a_M α r ee)), (4, .ref (ad (11 + 4 * r))), (0, .ref (ad 0)), (1, .int (nI r)), (2, .int (nI ee)), (3, .int wh)]) hx hb dX2_inTimed_25 hl (by decide) rfl (fun ls hl => ?_)
  refine lv_iload_n hx hb dX2_inTimed_27 rfl (lv_at hl 5 rfl) ?_
  refine lv_if_ne (tgt := 40) hx hb dX2_inTimed_28 (by decide) (fun c1 => ?_) (fun c1 => ?_)
  · refine lv_iload hx hb dX2_inTimed_40 (lv_at hl 0 rfl) ?_
    refine lv_if_ne (tgt := 47) hx hb dX2_inTimed_42 (by decide) (fun c2 => ?_) (fun c2 => ?_)
    · refine lv_iload_n hx hb dX2_inTimed_47 rfl (lv_at hl 5 rfl) ?_
      refine lv_iconst (v := 1) hx hb dX2_inTimed_48 (by decide) ?_
      refine lv_icmp_ne (tgt := 60) hx hb dX2_inTimed_49 (by decide) (fun c3 => ?_) (fun c3 => ?_)
      · refine lv_iload hx hb dX2_inTimed_60 (lv_at hl 0 rfl) ?_
        refine g_calli (va_runS (As := [.int (a_M α r ee)]) (rest := []) ⟨hx, hb, hml, hown, hts⟩ (c_stampReplica l G base (t := a_M α r ee)) (cwS 1 hts gX2_inTimed_X2_stampReplica rfl rfl rfl (by decide +kernel) ⟨(Nat.le_of_ble_eq_true rfl), (Nat.le_of_ble_eq_true rfl)⟩) (g_ps hK hG) rfl rfl hl.1 rfl (lv_room (Nat.le_of_ble_eq_true rfl)) dX2_inTimed_62 ⟨(Nat.le_of_ble_eq_true rfl), (Nat.le_of_ble_eq_true rfl)⟩) hG (fun y1 _ H locs hp hG => ?_)
        subst hp
        refine vx_ret ?_
        refine W.widen (k := 12) (n := 100) (by omega) (by omega) ?_
        exact W.iret (v := ((a_M α r ee - 1) / 2 - (a_M α r ee - 1) / 2 / 6 * 6)) hx hb hr (fun t9 h9 hW9 => ⟨⟨((a_M α r ee - 1) / 2 - (a_M α r ee - 1) / 2 / 6 * 6), (r, ee), rfl, ⟨⟨hr6, rfl⟩, ⟨he32, rfl⟩, hw3, by unfold timA; rw [if_neg c1, if_neg c2, if_neg c3]⟩, hG.at h9⟩, hG.2.2.1.F h9⟩) hG.2.2.1.2.2 dX2_inTimed_65
      · have c3 : wh = 1 := by first | exact c3 | exact Classical.not_not.mp c3
        refine lv_iload hx hb dX2_inTimed_52 (lv_at hl 0 rfl) ?_
        refine g_calli (va_runS (As := [.int (a_M α r ee)]) (rest := []) ⟨hx, hb, hml, hown, hts⟩ (c_stampTime l G base (t := a_M α r ee)) (cwS 1 hts gX2_inTimed_X2_stampTime rfl rfl rfl (by decide +kernel) ⟨(Nat.le_of_ble_eq_true rfl), (Nat.le_of_ble_eq_true rfl)⟩) (g_ps hK hG) rfl rfl hl.1 rfl (lv_room (Nat.le_of_ble_eq_true rfl)) dX2_inTimed_54 ⟨(Nat.le_of_ble_eq_true rfl), (Nat.le_of_ble_eq_true rfl)⟩) hG (fun y1 _ H locs hp hG => ?_)
        subst hp
        refine lv_goto (tgt := 65) hx hb dX2_inTimed_57 (by decide) ?_
        refine vx_ret ?_
        refine W.widen (k := 12) (n := 100) (by omega) (by omega) ?_
        exact W.iret (v := ((a_M α r ee - 1) / 2 / 6)) hx hb hr (fun t9 h9 hW9 => ⟨⟨((a_M α r ee - 1) / 2 / 6), (r, ee), rfl, ⟨⟨hr6, rfl⟩, ⟨he32, rfl⟩, hw3, by unfold timA; rw [if_neg c1, if_neg c2, if_pos c3]⟩, hG.at h9⟩, hG.2.2.1.F h9⟩) hG.2.2.1.2.2 dX2_inTimed_65
    · have c2 : a_M α r ee = 0 := by first | exact c2 | exact Classical.not_not.mp c2
      refine lv_iconst (v := (-1)) hx hb dX2_inTimed_45 (by decide) ?_
      refine vx_ret ?_
      refine W.widen (k := 12) (n := 100) (by omega) (by omega) ?_
      exact W.iret (v := (-1)) hx hb hr (fun t9 h9 hW9 => ⟨⟨(-1), (r, ee), rfl, ⟨⟨hr6, rfl⟩, ⟨he32, rfl⟩, hw3, by unfold timA; rw [if_neg c1, if_pos c2]⟩, hG.at h9⟩, hG.2.2.1.F h9⟩) hG.2.2.1.2.2 dX2_inTimed_46
  · have c1 : wh = 0 := by first | exact c1 | exact Classical.not_not.mp c1
    refine lv_iload hx hb dX2_inTimed_31 (lv_at hl 0 rfl) ?_
    refine g_calli (va_runS (As := [.int (a_M α r ee)]) (rest := []) ⟨hx, hb, hml, hown, hts⟩ (c_stampIsIn l G base (t := a_M α r ee)) (cwS 1 hts gX2_inTimed_X2_stampIsIn rfl rfl rfl (by decide +kernel) ⟨(Nat.le_of_ble_eq_true rfl), (Nat.le_of_ble_eq_true rfl)⟩) (g_ps hK hG) rfl rfl hl.1 rfl (lv_room (Nat.le_of_ble_eq_true rfl)) dX2_inTimed_33 ⟨(Nat.le_of_ble_eq_true rfl), (Nat.le_of_ble_eq_true rfl)⟩) hG (fun y1 _ H locs hp hG => ?_)
    subst hp
    refine g_calli (va_runS (As := [.int (bi (decide (0 < a_M α r ee ∧ (a_M α r ee - 1) - (a_M α r ee - 1) / 2 * 2 = 1)))]) (rest := []) ⟨hx, hb, hml, hown, hts⟩ (c_bit l G base (b := decide (0 < a_M α r ee ∧ (a_M α r ee - 1) - (a_M α r ee - 1) / 2 * 2 = 1))) (cwS 1 hts gX2_inTimed_X2_bit rfl rfl rfl (by decide +kernel) ⟨(Nat.le_of_ble_eq_true rfl), (Nat.le_of_ble_eq_true rfl)⟩) (g_ps hK hG) rfl rfl hl.1 rfl (lv_room (Nat.le_of_ble_eq_true rfl)) dX2_inTimed_36 ⟨(Nat.le_of_ble_eq_true rfl), (Nat.le_of_ble_eq_true rfl)⟩) hG (fun y2 _ H locs hp hG => ?_)
    subst hp
    refine vx_ret ?_
    refine W.widen (k := 12) (n := 100) (by omega) (by omega) ?_
    exact W.iret (v := (bi (decide (0 < a_M α r ee ∧ (a_M α r ee - 1) - (a_M α r ee - 1) / 2 * 2 = 1)))) hx hb hr (fun t9 h9 hW9 => ⟨⟨(bi (decide (0 < a_M α r ee ∧ (a_M α r ee - 1) - (a_M α r ee - 1) / 2 * 2 = 1))), (r, ee), rfl, ⟨⟨hr6, rfl⟩, ⟨he32, rfl⟩, hw3, by unfold timA; rw [if_pos c1]⟩, hG.at h9⟩, hG.2.2.1.F h9⟩) hG.2.2.1.2.2 dX2_inTimed_39
