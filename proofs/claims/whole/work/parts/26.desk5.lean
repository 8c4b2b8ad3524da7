set_option maxHeartbeats 4000000 in
set_option maxRecDepth 100000 in
/-- turn(own, r, key, part, on) -/
theorem c_turn (l : Launch) (G : gG) (base : Nat) {L : List Nat} {K n : Nat → Nat} {rI : Nat → Nat → Int32} {rJ : Nat → Nat → Int64} {rQ : Nat → Nat → Option Nat} {fI : Nat → Nat → Int32} {fR : Nat → Nat → Option Nat} (hl0 : l.stackTraces = false) {ad : Nat → Nat} {α : aT} (hR : RepX (L, K, n, rI, rJ, rQ, fI, fR) ad α) {r : Nat} {key part : Int32} {on : Bool} (hr6 : r < 6) : vx_Met l yX2_turn wsX2_turn ({ frames := 7, cells := 6, slots := 57, locals := 111 }) (va_Pc [.ref (ad 0), .ref (ad (11 + 4 * r)), .int (nI r), .int key, .int part, .int (bi on)] (g_Px G base (L, K, n, rI, rJ, rQ, fI, fR))) (g_Qi G base (fun u : gS × (Nat → Nat) => u.1) (fun x u => x = nI (a_nd α) ∧ StpX (L, K, n, rI, rJ, rQ, fI, fR) ad α u.1 u.2 (aTurn α r key part on))) (g_XC G base (L, K, n, rI, rJ, rQ, fI, fR) (fun E => E = "java/lang/IllegalStateException" ∧ ((on = true ∧ ¬ (a_cnt α < 250 ∧ a_g α r < 100)) ∨ ¬ a_nd α < 250))) 6 57 (g_A base) := by
  have hDk : isDk L K n fR (ad 0) (ad 1) (ad 2) (ad 3) (ad 35) (ad 4) := hR.1.2.2.1
  have hD : isDt L K n fR (ad 3) (ad 5) (ad 6) (ad 7) (ad 8) (ad 9) (ad 10) := hR.1.2.2.2.1
  have hcnt : fI (ad 3) 6 = nI (a_cnt α) := hR.2.2.2.1.1
  have hmc : fI (ad 0) 5 = nI (a_nd α) := hR.2.1
  have hnd : a_nd α ≤ 250 := hR.1.1
  have hc250 : a_cnt α ≤ 250 := Nat.le_trans hR.2.2.1 hnd
  have hDk0 := hDk
  obtain ⟨hLx, hKx, h0x, h1x, h2x, h3x, h4x, hLra, hKra, hnra, hLma, hKma, hnma, hLod, hKod, hnod⟩ := hDk0
  have hD0 := hD
  obtain ⟨hLd, hKd, h0d, h1d, h2d, h3d, h4d, h5d, hLdr, hKdr, hndr, hLdn, hKdn, hndn, hLdk, hKdk, hndk, hLdp, hKdp, hndp, hLdv, hKdv, hndv, hLdg, hKdg, hndg⟩ := hD0
  have hgr : ∀ r, r < 6 → rI (ad 10) r = nI (a_g α r) ∧ a_g α r ≤ 100 := hR.2.2.2.1.2.1
  have hSr : isSt L K n fR (ad (11 + 4 * r)) (ad (12 + 4 * r)) (ad (13 + 4 * r)) (ad (14 + 4 * r)) := repX_st hR (show r < 7 + a_nd α by omega)
  have hS0 := hSr
  obtain ⟨hLar, hKar, h0ar, h1ar, h2ar, hLbr, hKbr, hnbr, hLcr, hKcr, hncr, hLer, hKer, hner⟩ := hS0
  refine vx_ofW (cc := cX2_turn) (maxL := 7) (ret := (some .int)) (by decide) rfl ?_
  intro p e s m args below meth c s₁ B hml hnt hv
  obtain ⟨rfl, hPr, hX⟩ := hv
  have hx := B.exec
  have hb := B.bytes
  have hr := B.returns
  have hts := atoms_spec (ws := wsX2_turn) B.pre
  have hown : s.vm.findClass RX2 = some m.cls := findClass_of_methodNamed B.named
  have hlocks := B.notSynchronized
  have hin : meth.name = "turn" := (name_of_methodNamed B.named B.method).1
  have hK := hPr.2.2
  have hG := hPr.gw
  have hl := lv_entry ([.ref (ad 0), .ref (ad (11 + 4 * r)), .int (nI r), .int key, .int part, .int (bi on)]) (n := 7) (Nat.le_of_ble_eq_true rfl)
  rw [lg_entry_eq]
  generalize (lg_sl ([.ref (ad 0), .ref (ad (11 + 4 * r)), .int (nI r), .int key, .int part, .int (bi on)]) ++ List.replicate (7 - (lg_sl ([.ref (ad 0), .ref (ad (11 + 4 * r)), .int (nI r), .int key, .int part, .int (bi on)])).length) Slot.unset).toArray = ls at hl ⊢
  have hl : lv_has ls 7 [(0, .ref (ad 0)), (1, .ref (ad (11 + 4 * r))), (2, .int (nI r)), (3, .int key), (4, .int part), (5, .int (bi on))] := hl
  refine g_start hPr (fun H locs hG => ?_)
  refine lv_iload hx hb dX2_turn_0 (lv_at hl 5 rfl) ?_
  refine lv_if_eq (tgt := 10) hx hb dX2_turn_2 (by decide) (fun c1 => ?_) (fun c1 => ?_)
  · have c1 := bi_0.mp c1
    subst c1
    refine lv_aload_n hx hb dX2_turn_10 rfl (lv_at hl 0 rfl) ?_
    refine g_xr (vx_runV (As := []) (rest := []) ⟨hx, hb, hml, hown, hts⟩ (c_openDelta l G base hl0 hDk hnd hmc) (cwV 0 hts gX2_turn_X2_openDelta rfl rfl rfl (by decide +kernel) ⟨(Nat.le_of_ble_eq_true rfl), (Nat.le_of_ble_eq_true rfl)⟩) (g_px2 hK hX hG hLx hKx) rfl rfl hl.1 rfl (lv_room (Nat.le_of_ble_eq_true rfl)) dX2_turn_11 ⟨(Nat.le_of_ble_eq_true rfl), (Nat.le_of_ble_eq_true rfl)⟩) hG (fun E ce q9 H locs hpx hG hce hcv hcl => ?_) (fun a1 u H locs hp hG => ?_)
    · exact g_out hnt hlocks hce hcv hcl ⟨hpx.1, Or.inr hpx.2⟩ hG (by omega) (by omega)
    obtain ⟨⟨L1, K1, n1, rI1, rJ1, rQ1, fI1, fR1⟩, bs, bl, bt⟩ := u
    obtain ⟨hlt, hN⟩ := hp
    have hP1 := StpX.new hR hlt hN
    obtain ⟨ad1, ead⟩ : ∃ z, z = adN ad (11 + 4 * (7 + a_nd α)) a1 bs bl bt := ⟨_, rfl⟩
    rw [← ead] at hP1
    have hlo : ∀ {i : Nat}, i < 11 + 4 * (7 + a_nd α) → ad i = ad1 i := fun hi => by rw [ead]; exact (adN_lt hi).symm
    have ea : a1 = ad1 (11 + 4 * (7 + a_nd α)) := by rw [ead]; exact adN_0.symm
    clear ead hN
    subst ea
    replace hG : gw G base s.heap (L1, K1, n1, rI1, rJ1, rQ1, fI1, fR1) H locs := hG
    rw [hlo (i := 0) (by omega), hlo (i := 11 + 4 * r) (by omega)] at hl
    have hR1 := hP1.1
    have hlt1 : a_nd α < 250 := hlt
    have hDk1 : isDk L1 K1 n1 fR1 (ad1 0) (ad1 1) (ad1 2) (ad1 3) (ad1 35) (ad1 4) := hR1.1.2.2.1
    have hD1 : isDt L1 K1 n1 fR1 (ad1 3) (ad1 5) (ad1 6) (ad1 7) (ad1 8) (ad1 9) (ad1 10) := hR1.1.2.2.2.1
    have hDk0 := hDk1
    obtain ⟨hLx1, hKx1, h0x1, h1x1, h2x1, h3x1, h4x1, hLra1, hKra1, hnra1, hLma1, hKma1, hnma1, hLod1, hKod1, hnod1⟩ := hDk0
    have hD0 := hD1
    obtain ⟨hLd1, hKd1, h0d1, h1d1, h2d1, h3d1, h4d1, h5d1, hLdr1, hKdr1, hndr1, hLdn1, hKdn1, hndn1, hLdk1, hKdk1, hndk1, hLdp1, hKdp1, hndp1, hLdv1, hKdv1, hndv1, hLdg1, hKdg1, hndg1⟩ := hD0
    have hcnt1 : fI1 (ad1 3) 6 = nI (a_cnt α) := hR1.2.2.2.1.1
    have hmc1 : fI1 (ad1 0) 5 = nI (a_nd α + 1) := hR1.2.1
    have hDl : 7 + a_nd α < 7 + (a_nd α + 1) := by omega
    have hSr : isSt L1 K1 n1 fR1 (ad1 (11 + 4 * r)) (ad1 (12 + 4 * r)) (ad1 (13 + 4 * r)) (ad1 (14 + 4 * r)) := repX_st hR1 (show r < 7 + (a_nd α + 1) by omega)
    have hS0 := hSr
    obtain ⟨hLar, hKar, h0ar, h1ar, h2ar, hLbr, hKbr, hnbr, hLcr, hKcr, hncr, hLer, hKer, hner⟩ := hS0
    have hSD : isSt L1 K1 n1 fR1 (ad1 (11 + 4 * (7 + a_nd α))) (ad1 (12 + 4 * (7 + a_nd α))) (ad1 (13 + 4 * (7 + a_nd α))) (ad1 (14 + 4 * (7 + a_nd α))) := repX_st hR1 hDl
    have hS0 := hSD
    obtain ⟨hLaD, hKaD, h0aD, h1aD, h2aD, hLbD, hKbD, hnbD, hLcD, hKcD, hncD, hLeD, hKeD, hneD⟩ := hS0
    refine lv_astore (lv' := [(6, .ref (ad1 (11 + 4 * (7 + a_nd α)))), (0, .ref (ad1 0)), (1, .ref (ad1 (11 + 4 * r))), (2, .int (nI r)), (3, .int key), (4, .int part), (5, .int (bi false))]) hx hb dX2_turn_14 hl (by decide) rfl (fun ls hl => ?_)
    refine lv_aload_n hx hb dX2_turn_16 rfl (lv_at hl 1 rfl) ?_
    refine lv_aload_n hx hb dX2_turn_17 rfl (lv_at hl 2 rfl) ?_
    refine lv_aload hx hb dX2_turn_18 (lv_at hl 0 rfl) ?_
    refine lv_iload_n hx hb dX2_turn_20 rfl (lv_at hl 4 rfl) ?_
    refine lv_iload hx hb dX2_turn_21 (lv_at hl 5 rfl) ?_
    refine lv_iconst (v := (-1)) hx hb dX2_turn_23 (by decide) ?_
    refine g_calll (va_runV (As := [.ref (ad1 (11 + 4 * r)), .ref (ad1 (11 + 4 * (7 + a_nd α))), .int key, .int part, .int (-1)]) (rest := []) ⟨hx, hb, hml, hown, hts⟩ (c_takeBack l G base hR1 (k := r) (D := 7 + a_nd α) (key := key) (q := part) (r := (-1)) (show r < 7 + (a_nd α + 1) by omega) hDl (by omega)) (cwV 5 hts gX2_turn_X2_takeBack rfl rfl rfl (by decide +kernel) ⟨(Nat.le_of_ble_eq_true rfl), (Nat.le_of_ble_eq_true rfl)⟩) (g_pv2 hK hG hLx1 hKx1) rfl rfl hl.1 rfl (lv_room (Nat.le_of_ble_eq_true rfl)) dX2_turn_24 ⟨(Nat.le_of_ble_eq_true rfl), (Nat.le_of_ble_eq_true rfl)⟩) hG (fun tk j2 H locs hp hG => ?_)
    obtain ⟨htk, hJ2, hb2⟩ := hp
    have hP2 : StpX (L, K, n, rI, rJ, rQ, fI, fR) ad α (L1, K1, n1, rI1, j2, rQ1, fI1, fR1) ad1 (aBack (aNew α) r (7 + a_nd α) key part (-1)) := hP1.tr (StpX.of rfl (repX_see hR1 hDl hJ2 hb2))
    refine lv_pop2_2 hx hb dX2_turn_27 rfl ?_
    refine lv_iload hx hb dX2_turn_28 (lv_at hl 6 rfl) ?_
    refine lv_if_eq (tgt := 50) hx hb dX2_turn_30 (by decide) (fun c2 => ?_) (fun c2 => ?_)
    · refine lv_aload_n hx hb dX2_turn_50 rfl (lv_at hl 1 rfl) ?_
      refine lv_aload_n hx hb dX2_turn_51 rfl (lv_at hl 2 rfl) ?_
      refine lv_aload hx hb dX2_turn_52 (lv_at hl 0 rfl) ?_
      refine g_calli (va_runV (As := [.ref (ad1 (11 + 4 * r)), .ref (ad1 (11 + 4 * (7 + a_nd α)))]) (rest := []) ⟨hx, hb, hml, hown, hts⟩ (c_finish l G base hP2.1 (k := r) (o := 7 + a_nd α) (show r < 7 + (a_nd α + 1) by omega) hDl) (cwV 2 hts gX2_turn_X2_finish rfl rfl rfl (by decide +kernel) ⟨(Nat.le_of_ble_eq_true rfl), (Nat.le_of_ble_eq_true rfl)⟩) (g_pv2 hK hG hLx1 hKx1) rfl rfl hl.1 rfl (lv_room (Nat.le_of_ble_eq_true rfl)) dX2_turn_54 ⟨(Nat.le_of_ble_eq_true rfl), (Nat.le_of_ble_eq_true rfl)⟩) hG (fun y5 u5 H locs hp hG => ?_)
      obtain ⟨i5, j5, f5⟩ := u5
      obtain ⟨rfl, hR5, hK5⟩ := hp
      replace hG : gw G base s.heap (L1, K1, n1, i5, j5, rQ1, f5, fR1) H locs := hG
      have hP5 : StpX (L, K, n, rI, rJ, rQ, fI, fR) ad α (L1, K1, n1, i5, j5, rQ1, f5, fR1) ad1 (aJoin (aBack (aNew α) r (7 + a_nd α) key part (-1)) r (7 + a_nd α)) := hP2.tr (StpX.of rfl ⟨hR5, hK5⟩)
      refine vx_ret ?_
      refine W.widen (k := 6) (n := 57) (by omega) (by omega) ?_
      exact W.iret (v := (nI (a_nd α + 1) - 1)) hx hb hr (fun t9 h9 hW9 => ⟨⟨(nI (a_nd α + 1) - 1), ((L1, K1, n1, i5, j5, rQ1, f5, fR1), ad1), rfl, ⟨nI_pred (a_nd α), hP5⟩, hG.at h9⟩, hG.2.2.1.F h9⟩) hG.2.2.1.2.2 dX2_turn_57
    · exact absurd rfl c2
  · have c1 := ts_nf (fun z => c1 (bi_0.mpr z))
    subst c1
    refine lv_aload_n hx hb dX2_turn_5 rfl (lv_at hl 0 rfl) ?_
    refine lv_iload_n hx hb dX2_turn_6 rfl (lv_at hl 2 rfl) ?_
    refine g_xv (vx_runV (As := [.int (nI r)]) (rest := []) ⟨hx, hb, hml, hown, hts⟩ (c_requireDot l G base hl0 hDk hD hr6 hcnt hc250 (hgr r hr6).1 (hgr r hr6).2) (cwV 1 hts gX2_turn_X2_requireDot rfl rfl rfl (by decide +kernel) ⟨(Nat.le_of_ble_eq_true rfl), (Nat.le_of_ble_eq_true rfl)⟩) (g_px2 hK hX hG hLx hKx) rfl rfl hl.1 rfl (lv_room (Nat.le_of_ble_eq_true rfl)) dX2_turn_7 ⟨(Nat.le_of_ble_eq_true rfl), (Nat.le_of_ble_eq_true rfl)⟩) hG (fun E ce q9 H locs hpx hG hce hcv hcl => ?_) (fun _ H locs hdt hG => ?_)
    · exact g_out hnt hlocks hce hcv hcl ⟨hpx.1, Or.inl ⟨rfl, hpx.2⟩⟩ hG (by omega) (by omega)
    refine lv_aload_n hx hb dX2_turn_10 rfl (lv_at hl 0 rfl) ?_
    refine g_xr (vx_runV (As := []) (rest := []) ⟨hx, hb, hml, hown, hts⟩ (c_openDelta l G base hl0 hDk hnd hmc) (cwV 0 hts gX2_turn_X2_openDelta rfl rfl rfl (by decide +kernel) ⟨(Nat.le_of_ble_eq_true rfl), (Nat.le_of_ble_eq_true rfl)⟩) (g_px2 hK hX hG hLx hKx) rfl rfl hl.1 rfl (lv_room (Nat.le_of_ble_eq_true rfl)) dX2_turn_11 ⟨(Nat.le_of_ble_eq_true rfl), (Nat.le_of_ble_eq_true rfl)⟩) hG (fun E ce q9 H locs hpx hG hce hcv hcl => ?_) (fun a1 u H locs hp hG => ?_)
    · exact g_out hnt hlocks hce hcv hcl ⟨hpx.1, Or.inr hpx.2⟩ hG (by omega) (by omega)
    obtain ⟨⟨L1, K1, n1, rI1, rJ1, rQ1, fI1, fR1⟩, bs, bl, bt⟩ := u
    obtain ⟨hlt, hN⟩ := hp
    have hP1 := StpX.new hR hlt hN
    obtain ⟨ad1, ead⟩ : ∃ z, z = adN ad (11 + 4 * (7 + a_nd α)) a1 bs bl bt := ⟨_, rfl⟩
    rw [← ead] at hP1
    have hlo : ∀ {i : Nat}, i < 11 + 4 * (7 + a_nd α) → ad i = ad1 i := fun hi => by rw [ead]; exact (adN_lt hi).symm
    have ea : a1 = ad1 (11 + 4 * (7 + a_nd α)) := by rw [ead]; exact adN_0.symm
    clear ead hN
    subst ea
    replace hG : gw G base s.heap (L1, K1, n1, rI1, rJ1, rQ1, fI1, fR1) H locs := hG
    rw [hlo (i := 0) (by omega), hlo (i := 11 + 4 * r) (by omega)] at hl
    have hR1 := hP1.1
    have hlt1 : a_nd α < 250 := hlt
    have hDk1 : isDk L1 K1 n1 fR1 (ad1 0) (ad1 1) (ad1 2) (ad1 3) (ad1 35) (ad1 4) := hR1.1.2.2.1
    have hD1 : isDt L1 K1 n1 fR1 (ad1 3) (ad1 5) (ad1 6) (ad1 7) (ad1 8) (ad1 9) (ad1 10) := hR1.1.2.2.2.1
    have hDk0 := hDk1
    obtain ⟨hLx1, hKx1, h0x1, h1x1, h2x1, h3x1, h4x1, hLra1, hKra1, hnra1, hLma1, hKma1, hnma1, hLod1, hKod1, hnod1⟩ := hDk0
    have hD0 := hD1
    obtain ⟨hLd1, hKd1, h0d1, h1d1, h2d1, h3d1, h4d1, h5d1, hLdr1, hKdr1, hndr1, hLdn1, hKdn1, hndn1, hLdk1, hKdk1, hndk1, hLdp1, hKdp1, hndp1, hLdv1, hKdv1, hndv1, hLdg1, hKdg1, hndg1⟩ := hD0
    have hcnt1 : fI1 (ad1 3) 6 = nI (a_cnt α) := hR1.2.2.2.1.1
    have hmc1 : fI1 (ad1 0) 5 = nI (a_nd α + 1) := hR1.2.1
    have hDl : 7 + a_nd α < 7 + (a_nd α + 1) := by omega
    have hSr : isSt L1 K1 n1 fR1 (ad1 (11 + 4 * r)) (ad1 (12 + 4 * r)) (ad1 (13 + 4 * r)) (ad1 (14 + 4 * r)) := repX_st hR1 (show r < 7 + (a_nd α + 1) by omega)
    have hS0 := hSr
    obtain ⟨hLar, hKar, h0ar, h1ar, h2ar, hLbr, hKbr, hnbr, hLcr, hKcr, hncr, hLer, hKer, hner⟩ := hS0
    have hSD : isSt L1 K1 n1 fR1 (ad1 (11 + 4 * (7 + a_nd α))) (ad1 (12 + 4 * (7 + a_nd α))) (ad1 (13 + 4 * (7 + a_nd α))) (ad1 (14 + 4 * (7 + a_nd α))) := repX_st hR1 hDl
    have hS0 := hSD
    obtain ⟨hLaD, hKaD, h0aD, h1aD, h2aD, hLbD, hKbD, hnbD, hLcD, hKcD, hncD, hLeD, hKeD, hneD⟩ := hS0
    refine lv_astore (lv' := [(6, .ref (ad1 (11 + 4 * (7 + a_nd α)))), (0, .ref (ad1 0)), (1, .ref (ad1 (11 + 4 * r))), (2, .int (nI r)), (3, .int key), (4, .int part), (5, .int (bi true))]) hx hb dX2_turn_14 hl (by decide) rfl (fun ls hl => ?_)
    refine lv_aload_n hx hb dX2_turn_16 rfl (lv_at hl 1 rfl) ?_
    refine lv_aload_n hx hb dX2_turn_17 rfl (lv_at hl 2 rfl) ?_
    refine lv_aload hx hb dX2_turn_18 (lv_at hl 0 rfl) ?_
    refine lv_iload_n hx hb dX2_turn_20 rfl (lv_at hl 4 rfl) ?_
    refine lv_iload hx hb dX2_turn_21 (lv_at hl 5 rfl) ?_
    refine lv_iconst (v := (-1)) hx hb dX2_turn_23 (by decide) ?_
    refine g_calll (va_runV (As := [.ref (ad1 (11 + 4 * r)), .ref (ad1 (11 + 4 * (7 + a_nd α))), .int key, .int part, .int (-1)]) (rest := []) ⟨hx, hb, hml, hown, hts⟩ (c_takeBack l G base hR1 (k := r) (D := 7 + a_nd α) (key := key) (q := part) (r := (-1)) (show r < 7 + (a_nd α + 1) by omega) hDl (by omega)) (cwV 5 hts gX2_turn_X2_takeBack rfl rfl rfl (by decide +kernel) ⟨(Nat.le_of_ble_eq_true rfl), (Nat.le_of_ble_eq_true rfl)⟩) (g_pv2 hK hG hLx1 hKx1) rfl rfl hl.1 rfl (lv_room (Nat.le_of_ble_eq_true rfl)) dX2_turn_24 ⟨(Nat.le_of_ble_eq_true rfl), (Nat.le_of_ble_eq_true rfl)⟩) hG (fun tk j2 H locs hp hG => ?_)
    obtain ⟨htk, hJ2, hb2⟩ := hp
    have hP2 : StpX (L, K, n, rI, rJ, rQ, fI, fR) ad α (L1, K1, n1, rI1, j2, rQ1, fI1, fR1) ad1 (aBack (aNew α) r (7 + a_nd α) key part (-1)) := hP1.tr (StpX.of rfl (repX_see hR1 hDl hJ2 hb2))
    refine lv_pop2_2 hx hb dX2_turn_27 rfl ?_
    refine lv_iload hx hb dX2_turn_28 (lv_at hl 6 rfl) ?_
    refine lv_if_eq (tgt := 50) hx hb dX2_turn_30 (by decide) (fun c2 => ?_) (fun c2 => ?_)
    · exact absurd c2 (by decide)
    · refine lv_aload hx hb dX2_turn_33 (lv_at hl 0 rfl) ?_
      refine lv_aload_n hx hb dX2_turn_35 rfl (lv_at hl 1 rfl) ?_
      refine r_Desk_dots hx hb hts (by decide +kernel) hown hK hG hLx1 hKx1 h2x1 (hts (.fieldLink RX2 21 "DotStores" "dots" "LDotStores$Dots;") (by decide +kernel)) dX2_turn_36 ?_
      refine lv_iload_n hx hb dX2_turn_39 rfl (lv_at hl 3 rfl) ?_
      refine lv_iload_n hx hb dX2_turn_40 rfl (lv_at hl 4 rfl) ?_
      refine lv_iload hx hb dX2_turn_41 (lv_at hl 5 rfl) ?_
      refine lv_lconst (v := 0) hx hb dX2_turn_43 (by decide) ?_
      refine g_calli (va_runV (As := [.int (nI r), .int key, .int part, .long 0]) (rest := [.ref (ad1 (11 + 4 * (7 + a_nd α)))]) ⟨hx, hb, hml, hown, hts⟩ (c_make l G base hD1 (r := r) (cnt := a_cnt α) (k := key) (q := part) (v := 0) hr6 hcnt1 hdt.1) (cwV 4 hts gX2_turn_X0_make rfl rfl rfl (by decide +kernel) ⟨(Nat.le_of_ble_eq_true rfl), (Nat.le_of_ble_eq_true rfl)⟩) (g_pv0 hK hG hLd1 hKd1) rfl rfl hl.1 rfl (lv_room (Nat.le_of_ble_eq_true rfl)) dX2_turn_44 ⟨(Nat.le_of_ble_eq_true rfl), (Nat.le_of_ble_eq_true rfl)⟩) hG (fun y3 _ H locs hp hG => ?_)
      obtain ⟨i3, ei3⟩ : ∃ z, z = g_up (g_up (g_up (g_up (g_up rI1 (ad1 10) r (rI1 (ad1 10) r + 1)) (ad1 5) (a_cnt α) (nI r)) (ad1 6) (a_cnt α) (g_up (g_up rI1 (ad1 10) r (rI1 (ad1 10) r + 1)) (ad1 5) (a_cnt α) (nI r) (ad1 10) r)) (ad1 7) (a_cnt α) key) (ad1 8) (a_cnt α) part := ⟨_, rfl⟩
      obtain ⟨j3, ej3⟩ : ∃ z, z = g_up j2 (ad1 9) (a_cnt α) 0 := ⟨_, rfl⟩
      obtain ⟨f3, ef3⟩ : ∃ z, z = g_up fI1 (ad1 3) 6 (fI1 (ad1 3) 6 + 1) := ⟨_, rfl⟩
      replace hG : gw G base s.heap (L1, K1, n1, i3, j3, rQ1, f3, fR1) H locs := by rw [ei3, ej3, ef3]; exact hG
      subst hp
      have hP3 : StpX (L, K, n, rI, rJ, rQ, fI, fR) ad α (L1, K1, n1, i3, j3, rQ1, f3, fR1) ad1 (aDot (aBack (aNew α) r (7 + a_nd α) key part (-1)) r key part 0) := hP2.tr (StpX.of rfl (repX_dot hP2.1 hr6 (show a_cnt α < a_nd α + 1 by have := hR.2.2.1; omega) hdt.2 ei3 ej3 ef3))
      refine g_callv (va_runV (As := [.int (nI (a_cnt α))]) (rest := []) ⟨hx, hb, hml, hown, hts⟩ (c_enliven l G base hSD (i := a_cnt α) (by omega)) (cwV 1 hts gX2_turn_X1_enliven rfl rfl rfl (by decide +kernel) ⟨(Nat.le_of_ble_eq_true rfl), (Nat.le_of_ble_eq_true rfl)⟩) (g_pv1 hK hG hLaD hKaD) rfl rfl hl.1 rfl (lv_room (Nat.le_of_ble_eq_true rfl)) dX2_turn_47 ⟨(Nat.le_of_ble_eq_true rfl), (Nat.le_of_ble_eq_true rfl)⟩) hG (fun j4 H locs hp hG => ?_)
      have hP4 : StpX (L, K, n, rI, rJ, rQ, fI, fR) ad α (L1, K1, n1, i3, j4, rQ1, f3, fR1) ad1 (aMake (aBack (aNew α) r (7 + a_nd α) key part (-1)) (7 + a_nd α) r key part 0) := hP3.tr (StpX.of rfl (repX_live hP3.1 hDl hp))
      refine lv_aload_n hx hb dX2_turn_50 rfl (lv_at hl 1 rfl) ?_
      refine lv_aload_n hx hb dX2_turn_51 rfl (lv_at hl 2 rfl) ?_
      refine lv_aload hx hb dX2_turn_52 (lv_at hl 0 rfl) ?_
      refine g_calli (va_runV (As := [.ref (ad1 (11 + 4 * r)), .ref (ad1 (11 + 4 * (7 + a_nd α)))]) (rest := []) ⟨hx, hb, hml, hown, hts⟩ (c_finish l G base hP4.1 (k := r) (o := 7 + a_nd α) (show r < 7 + (a_nd α + 1) by omega) hDl) (cwV 2 hts gX2_turn_X2_finish rfl rfl rfl (by decide +kernel) ⟨(Nat.le_of_ble_eq_true rfl), (Nat.le_of_ble_eq_true rfl)⟩) (g_pv2 hK hG hLx1 hKx1) rfl rfl hl.1 rfl (lv_room (Nat.le_of_ble_eq_true rfl)) dX2_turn_54 ⟨(Nat.le_of_ble_eq_true rfl), (Nat.le_of_ble_eq_true rfl)⟩) hG (fun y5 u5 H locs hp hG => ?_)
      obtain ⟨i5, j5, f5⟩ := u5
      obtain ⟨rfl, hR5, hK5⟩ := hp
      replace hG : gw G base s.heap (L1, K1, n1, i5, j5, rQ1, f5, fR1) H locs := hG
      have hP5 : StpX (L, K, n, rI, rJ, rQ, fI, fR) ad α (L1, K1, n1, i5, j5, rQ1, f5, fR1) ad1 (aJoin (aMake (aBack (aNew α) r (7 + a_nd α) key part (-1)) (7 + a_nd α) r key part 0) r (7 + a_nd α)) := hP4.tr (StpX.of rfl ⟨hR5, hK5⟩)
      refine vx_ret ?_
      refine W.widen (k := 6) (n := 57) (by omega) (by omega) ?_
      exact W.iret (v := (nI (a_nd α + 1) - 1)) hx hb hr (fun t9 h9 hW9 => ⟨⟨(nI (a_nd α + 1) - 1), ((L1, K1, n1, i5, j5, rQ1, f5, fR1), ad1), rfl, ⟨nI_pred (a_nd α), hP5⟩, hG.at h9⟩, hG.2.2.1.F h9⟩) hG.2.2.1.2.2 dX2_turn_57
