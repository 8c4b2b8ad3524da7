set_option maxHeartbeats 4000000 in
set_option maxRecDepth 100000 in
/-- twice(i, e, put) -/
theorem c_twice (l : Launch) (G : gG) (base : Nat) {L : List Nat} {K n : Nat → Nat} {rI : Nat → Nat → Int32} {rJ : Nat → Nat → Int64} {rQ : Nat → Nat → Option Nat} {fI : Nat → Nat → Int32} {fR : Nat → Nat → Option Nat} (hl0 : l.stackTraces = false) {ad : Nat → Nat} {α : aT} (hR : RepX (L, K, n, rI, rJ, rQ, fI, fR) ad α) {i el : Int32} {on : Bool} : vx_Met l yX2_twice wsX2_twice ({ frames := 7, cells := 12, slots := 100, locals := 111 }) (va_Pc [.ref (ad 0), .int i, .int el, .int (bi on)] (g_Px G base (L, K, n, rI, rJ, rQ, fI, fR))) (g_Qi G base (fun u : (gS × (Nat → Nat)) × Nat × Nat => u.1.1) (fun x u => (u.2.1 < 6 ∧ i = nI u.2.1) ∧ (u.2.2 < 32 ∧ el = nI u.2.2) ∧ x = nI (a_nd α) ∧ StpX (L, K, n, rI, rJ, rQ, fI, fR) ad α u.1.1 u.1.2 (aTwice α u.2.1 u.2.2 on))) (g_XC G base (L, K, n, rI, rJ, rQ, fI, fR) (fun E => (E = "java/lang/IndexOutOfBoundsException" ∧ ¬ (okI i 6 ∧ okI el 32)) ∨ (E = "java/lang/IllegalStateException" ∧ (okI i 6 ∧ okI el 32) ∧ ¬ a_nd α < 250))) 12 100 (g_A base) := by
  have hDk : isDk L K n fR (ad 0) (ad 1) (ad 2) (ad 3) (ad 35) (ad 4) := hR.1.2.2.1
  have hD : isDt L K n fR (ad 3) (ad 5) (ad 6) (ad 7) (ad 8) (ad 9) (ad 10) := hR.1.2.2.2.1
  have hcnt : fI (ad 3) 6 = nI (a_cnt α) := hR.2.2.2.1.1
  have hmc : fI (ad 0) 5 = nI (a_nd α) := hR.2.1
  have hnd : a_nd α ≤ 250 := hR.1.1
  have hc250 : a_cnt α ≤ 250 := Nat.le_trans hR.2.2.1 hnd
  have hDk0 := hDk
  obtain ⟨hLx, hKx, h0x, h1x, h2x, h3x, h4x, hLra, hKra, hnra, hLma, hKma, hnma, hLod, hKod, hnod⟩ := hDk0
  have hD0 := hD
  obtain ⟨hLd, hKd, h0d, h1d, h2d, h3d, h4d, h5d, hLdr, hKdr, hndr, hLdn, hKdn, hndn, hLdk, hKdk, hndk, hLdp, hKdp, hndp, hLdv, hKdv, hndv, hLdg, hKdg, hndg⟩ := hD0
  have hgr : ∀ r, r < 6 → rI (ad 10) r = nI (a_g α r) ∧ a_g α r ≤ 100 := hR.2.2.2.1.2.1
  refine vx_ofW (cc := cX2_twice) (maxL := 6) (ret := (some .int)) (by decide) rfl ?_
  intro p e s m args below meth c s₁ B hml hnt hv
  obtain ⟨rfl, hPr, hX⟩ := hv
  have hx := B.exec
  have hb := B.bytes
  have hr := B.returns
  have hts := atoms_spec (ws := wsX2_twice) B.pre
  have hown : s.vm.findClass RX2 = some m.cls := findClass_of_methodNamed B.named
  have hlocks := B.notSynchronized
  have hin : meth.name = "twice" := (name_of_methodNamed B.named B.method).1
  have hK := hPr.2.2
  have hG := hPr.gw
  have hl := lv_entry ([.ref (ad 0), .int i, .int el, .int (bi on)]) (n := 6) (Nat.le_of_ble_eq_true rfl)
  rw [lg_entry_eq]
  generalize (lg_sl ([.ref (ad 0), .int i, .int el, .int (bi on)]) ++ List.replicate (6 - (lg_sl ([.ref (ad 0), .int i, .int el, .int (bi on)])).length) Slot.unset).toArray = ls at hl ⊢
  have hl : lv_has ls 6 [(0, .ref (ad 0)), (1, .int i), (2, .int el), (3, .int (bi on))] := hl
  refine g_start hPr (fun H locs hG => ?_)
  refine lv_aload_n hx hb dX2_twice_0 rfl (lv_at hl 0 rfl) ?_
  refine lv_iload_n hx hb dX2_twice_1 rfl (lv_at hl 1 rfl) ?_
  refine g_xr (vx_runV (As := [.int i]) (rest := []) ⟨hx, hb, hml, hown, hts⟩ (c_replicaAt l G base hl0 hDk (sa := fun r => ad (11 + 4 * r)) hR.1.2.2.2.2.2.1 (i := i)) (cwV 1 hts gX2_twice_X2_replicaAt rfl rfl rfl (by decide +kernel) ⟨(Nat.le_of_ble_eq_true rfl), (Nat.le_of_ble_eq_true rfl)⟩) (g_px2 hK hX hG hLx hKx) rfl rfl hl.1 rfl (lv_room (Nat.le_of_ble_eq_true rfl)) dX2_twice_2 ⟨(Nat.le_of_ble_eq_true rfl), (Nat.le_of_ble_eq_true rfl)⟩) hG (fun E ce q9 H locs hpx hG hce hcv hcl => ?_) (fun a0 r H locs hp hG => ?_)
  · exact g_out hnt hlocks hce hcv hcl (Or.inl ⟨hpx.1, fun z => hpx.2 z.1⟩) hG (by omega) (by omega)
  obtain ⟨hr6, rfl, ea⟩ := hp
  replace ea : a0 = ad (11 + 4 * r) := ea
  subst ea
  have hSr : isSt L K n fR (ad (11 + 4 * r)) (ad (12 + 4 * r)) (ad (13 + 4 * r)) (ad (14 + 4 * r)) := repX_st hR (show r < 7 + a_nd α by omega)
  have hS0 := hSr
  obtain ⟨hLar, hKar, h0ar, h1ar, h2ar, hLbr, hKbr, hnbr, hLcr, hKcr, hncr, hLer, hKer, hner⟩ := hS0
  refine lv_astore (lv' := [(4, .ref (ad (11 + 4 * r))), (0, .ref (ad 0)), (1, .int (nI r)), (2, .int el), (3, .int (bi on))]) hx hb dX2_twice_5 hl (by decide) rfl (fun ls hl => ?_)
  refine lv_iload_n hx hb dX2_twice_7 rfl (lv_at hl 3 rfl) ?_
  refine lv_bipush (v := 32) hx hb dX2_twice_8 (by decide) ?_
  refine g_xv (vx_runS (As := [.int el, .int 32]) (rest := []) ⟨hx, hb, hml, hown, hts⟩ (c_requireIndex l G base hl0 (i := el) (b := 32)) (cwS 2 hts gX2_twice_X2_requireIndex rfl rfl rfl (by decide +kernel) ⟨(Nat.le_of_ble_eq_true rfl), (Nat.le_of_ble_eq_true rfl)⟩) (g_psx hK hX hG) rfl rfl hl.1 rfl (lv_room (Nat.le_of_ble_eq_true rfl)) dX2_twice_10 ⟨(Nat.le_of_ble_eq_true rfl), (Nat.le_of_ble_eq_true rfl)⟩) hG (fun E ce q9 H locs hpx hG hce hcv hcl => ?_) (fun _ H locs hp hG => ?_)
  · exact g_out hnt hlocks hce hcv hcl (Or.inl ⟨hpx.1, fun z => okI_no (by decide) hpx.2 z.2⟩) hG (by omega) (by omega)
  obtain ⟨ee, he32, rfl⟩ := okI_of (N := 32) (by decide) hp.1 hp.2
  refine lv_aload_n hx hb dX2_twice_13 rfl (lv_at hl 1 rfl) ?_
  refine g_xr (vx_runV (As := []) (rest := []) ⟨hx, hb, hml, hown, hts⟩ (c_openDelta l G base hl0 hDk hnd hmc) (cwV 0 hts gX2_twice_X2_openDelta rfl rfl rfl (by decide +kernel) ⟨(Nat.le_of_ble_eq_true rfl), (Nat.le_of_ble_eq_true rfl)⟩) (g_px2 hK hX hG hLx hKx) rfl rfl hl.1 rfl (lv_room (Nat.le_of_ble_eq_true rfl)) dX2_twice_14 ⟨(Nat.le_of_ble_eq_true rfl), (Nat.le_of_ble_eq_true rfl)⟩) hG (fun E ce q9 H locs hpx hG hce hcv hcl => ?_) (fun a1 u H locs hp hG => ?_)
  · exact g_out hnt hlocks hce hcv hcl (Or.inr ⟨hpx.1, ⟨⟨r, hr6, rfl⟩, ⟨ee, he32, rfl⟩⟩, hpx.2⟩) hG (by omega) (by omega)
  obtain ⟨⟨L1, K1, n1, rI1, rJ1, rQ1, fI1, fR1⟩, bs, bl, bt⟩ := u
  obtain ⟨hlt, hN⟩ := hp
  have hP1 := StpX.new hR hlt hN
  obtain ⟨ad1, ead⟩ : ∃ z, z = adN ad (11 + 4 * (7 + a_nd α)) a1 bs bl bt := ⟨_, rfl⟩
  rw [← ead] at hP1
  have hlo : ∀ {i : Nat}, i < 11 + 4 * (7 + a_nd α) → ad i = ad1 i := fun hi => by rw [ead]; exact (adN_lt hi).symm
  have ea : a1 = ad1 (11 + 4 * (7 + a_nd α)) := by rw [ead]; exact adN_0.symm
  clear ead hN
  subst ea
  replace hG : gw G base s.heap (L1, K1, n1, rI1, rJ1, rQ1, fI1, fR1) H locs := hG
  rw [hlo (i := 0) (by omega), hlo (i := 11 + 4 * r) (by omega)] at hl
  have hR1 := hP1.1
  have hlt1 : a_nd α < 250 := hlt
  have hDk1 : isDk L1 K1 n1 fR1 (ad1 0) (ad1 1) (ad1 2) (ad1 3) (ad1 35) (ad1 4) := hR1.1.2.2.1
  have hD1 : isDt L1 K1 n1 fR1 (ad1 3) (ad1 5) (ad1 6) (ad1 7) (ad1 8) (ad1 9) (ad1 10) := hR1.1.2.2.2.1
  have hDk0 := hDk1
  obtain ⟨hLx1, hKx1, h0x1, h1x1, h2x1, h3x1, h4x1, hLra1, hKra1, hnra1, hLma1, hKma1, hnma1, hLod1, hKod1, hnod1⟩ := hDk0
  have hD0 := hD1
  obtain ⟨hLd1, hKd1, h0d1, h1d1, h2d1, h3d1, h4d1, h5d1, hLdr1, hKdr1, hndr1, hLdn1, hKdn1, hndn1, hLdk1, hKdk1, hndk1, hLdp1, hKdp1, hndp1, hLdv1, hKdv1, hndv1, hLdg1, hKdg1, hndg1⟩ := hD0
  have hcnt1 : fI1 (ad1 3) 6 = nI (a_cnt α) := hR1.2.2.2.1.1
  have hmc1 : fI1 (ad1 0) 5 = nI (a_nd α + 1) := hR1.2.1
  have hDl : 7 + a_nd α < 7 + (a_nd α + 1) := by omega
  have hSr : isSt L1 K1 n1 fR1 (ad1 (11 + 4 * r)) (ad1 (12 + 4 * r)) (ad1 (13 + 4 * r)) (ad1 (14 + 4 * r)) := repX_st hR1 (show r < 7 + (a_nd α + 1) by omega)
  have hS0 := hSr
  obtain ⟨hLar, hKar, h0ar, h1ar, h2ar, hLbr, hKbr, hnbr, hLcr, hKcr, hncr, hLer, hKer, hner⟩ := hS0
  have hSD : isSt L1 K1 n1 fR1 (ad1 (11 + 4 * (7 + a_nd α))) (ad1 (12 + 4 * (7 + a_nd α))) (ad1 (13 + 4 * (7 + a_nd α))) (ad1 (14 + 4 * (7 + a_nd α))) := repX_st hR1 hDl
  have hS0 := hSD
  obtain ⟨hLaD, hKaD, h0aD, h1aD, h2aD, hLbD, hKbD, hnbD, hLcD, hKcD, hncD, hLeD, hKeD, hneD⟩ := hS0
  refine lv_astore (lv' := [(5, .ref (ad1 (11 + 4 * (7 + a_nd α)))), (4, .ref (ad1 (11 + 4 * r))), (0, .ref (ad1 0)), (1, .int (nI r)), (2, .int (nI ee)), (3, .int (bi on))]) hx hb dX2_twice_17 hl (by decide) rfl (fun ls hl => ?_)
  refine lv_iload_n hx hb dX2_twice_19 rfl (lv_at hl 5 rfl) ?_
  refine lv_if_eq (tgt := 34) hx hb dX2_twice_20 (by decide) (fun c1 => ?_) (fun c1 => ?_)
  · have c1 := bi_0.mp c1
    subst c1
    refine lv_aload hx hb dX2_twice_34 (lv_at hl 0 rfl) ?_
    refine lv_iconst (v := 1) hx hb dX2_twice_36 (by decide) ?_
    refine lv_iload_n hx hb dX2_twice_37 rfl (lv_at hl 4 rfl) ?_
    refine lv_ishl hx hb dX2_twice_38 ?_
    refine w_State_taken hx hb hts (by decide +kernel) hown hK hG hLaD hKaD (hts (.fieldLink RX2 79 "DotStores$State" "taken" "I") (by decide +kernel)) dX2_twice_39 (fun H locs hG => ?_)
    refine lv_aload_n hx hb dX2_twice_42 rfl (lv_at hl 2 rfl) ?_
    refine lv_aload hx hb dX2_twice_43 (lv_at hl 1 rfl) ?_
    refine lv_aload hx hb dX2_twice_45 (lv_at hl 0 rfl) ?_
    obtain ⟨f2, ef2⟩ : ∃ z, z = g_up fI1 (ad1 (11 + 4 * (7 + a_nd α))) 4 (1 <<< (nI ee &&& 31)) := ⟨_, rfl⟩
    replace hG : gw G base s.heap (L1, K1, n1, rI1, rJ1, rQ1, f2, fR1) H locs := by rw [ef2]; exact hG
    have hP2 : StpX (L, K, n, rI, rJ, rQ, fI, fR) ad α (L1, K1, n1, rI1, rJ1, rQ1, f2, fR1) ad1 (aSet (aNew α) (7 + a_nd α) (a_S (aNew α) (7 + a_nd α)) (a_L (aNew α) (7 + a_nd α)) (a_P (aNew α) (7 + a_nd α)) (1 <<< (nI ee &&& 31)) (a_M (aNew α) (7 + a_nd α))) := by rw [ef2]; exact hP1.tr (StpX.of rfl (repX_taken hR1 hDl))
    refine g_calli (va_runV (As := [.ref (ad1 (11 + 4 * r)), .ref (ad1 (11 + 4 * (7 + a_nd α)))]) (rest := []) ⟨hx, hb, hml, hown, hts⟩ (c_finish l G base hP2.1 (k := r) (o := 7 + a_nd α) (show r < 7 + (a_nd α + 1) by omega) hDl) (cwV 2 hts gX2_twice_X2_finish rfl rfl rfl (by decide +kernel) ⟨(Nat.le_of_ble_eq_true rfl), (Nat.le_of_ble_eq_true rfl)⟩) (g_pv2 hK hG hLx1 hKx1) rfl rfl hl.1 rfl (lv_room (Nat.le_of_ble_eq_true rfl)) dX2_twice_47 ⟨(Nat.le_of_ble_eq_true rfl), (Nat.le_of_ble_eq_true rfl)⟩) hG (fun y5 u5 H locs hp hG => ?_)
    obtain ⟨i5, j5, f5⟩ := u5
    obtain ⟨rfl, hR5, hK5⟩ := hp
    replace hG : gw G base s.heap (L1, K1, n1, i5, j5, rQ1, f5, fR1) H locs := hG
    have hP5 : StpX (L, K, n, rI, rJ, rQ, fI, fR) ad α (L1, K1, n1, i5, j5, rQ1, f5, fR1) ad1 (aJoin (aSet (aNew α) (7 + a_nd α) (a_S (aNew α) (7 + a_nd α)) (a_L (aNew α) (7 + a_nd α)) (a_P (aNew α) (7 + a_nd α)) (1 <<< (nI ee &&& 31)) (a_M (aNew α) (7 + a_nd α))) r (7 + a_nd α)) := hP2.tr (StpX.of rfl ⟨hR5, hK5⟩)
    refine vx_ret ?_
    refine W.widen (k := 12) (n := 100) (by omega) (by omega) ?_
    exact W.iret (v := (nI (a_nd α + 1) - 1)) hx hb hr (fun t9 h9 hW9 => ⟨⟨(nI (a_nd α + 1) - 1), (((L1, K1, n1, i5, j5, rQ1, f5, fR1), ad1), r, ee), rfl, ⟨⟨hr6, rfl⟩, ⟨he32, rfl⟩, nI_pred (a_nd α), hP5⟩, hG.at h9⟩, hG.2.2.1.F h9⟩) hG.2.2.1.2.2 dX2_twice_50
  · have c1 := ts_nf (fun z => c1 (bi_0.mpr z))
    subst c1
    refine lv_aload hx hb dX2_twice_23 (lv_at hl 0 rfl) ?_
    refine lv_iconst (v := 1) hx hb dX2_twice_25 (by decide) ?_
    refine lv_iload_n hx hb dX2_twice_26 rfl (lv_at hl 4 rfl) ?_
    refine lv_ishl hx hb dX2_twice_27 ?_
    refine w_State_put hx hb hts (by decide +kernel) hown hK hG hLaD hKaD (hts (.fieldLink RX2 76 "DotStores$State" "put" "I") (by decide +kernel)) dX2_twice_28 (fun H locs hG => ?_)
    refine lv_goto (tgt := 42) hx hb dX2_twice_31 (by decide) ?_
    refine lv_aload_n hx hb dX2_twice_42 rfl (lv_at hl 2 rfl) ?_
    refine lv_aload hx hb dX2_twice_43 (lv_at hl 1 rfl) ?_
    refine lv_aload hx hb dX2_twice_45 (lv_at hl 0 rfl) ?_
    obtain ⟨f2, ef2⟩ : ∃ z, z = g_up fI1 (ad1 (11 + 4 * (7 + a_nd α))) 3 (1 <<< (nI ee &&& 31)) := ⟨_, rfl⟩
    replace hG : gw G base s.heap (L1, K1, n1, rI1, rJ1, rQ1, f2, fR1) H locs := by rw [ef2]; exact hG
    have hP2 : StpX (L, K, n, rI, rJ, rQ, fI, fR) ad α (L1, K1, n1, rI1, rJ1, rQ1, f2, fR1) ad1 (aSet (aNew α) (7 + a_nd α) (a_S (aNew α) (7 + a_nd α)) (a_L (aNew α) (7 + a_nd α)) (1 <<< (nI ee &&& 31)) (a_T (aNew α) (7 + a_nd α)) (a_M (aNew α) (7 + a_nd α))) := by rw [ef2]; exact hP1.tr (StpX.of rfl (repX_put hR1 hDl))
    refine g_calli (va_runV (As := [.ref (ad1 (11 + 4 * r)), .ref (ad1 (11 + 4 * (7 + a_nd α)))]) (rest := []) ⟨hx, hb, hml, hown, hts⟩ (c_finish l G base hP2.1 (k := r) (o := 7 + a_nd α) (show r < 7 + (a_nd α + 1) by omega) hDl) (cwV 2 hts gX2_twice_X2_finish rfl rfl rfl (by decide +kernel) ⟨(Nat.le_of_ble_eq_true rfl), (Nat.le_of_ble_eq_true rfl)⟩) (g_pv2 hK hG hLx1 hKx1) rfl rfl hl.1 rfl (lv_room (Nat.le_of_ble_eq_true rfl)) dX2_twice_47 ⟨(Nat.le_of_ble_eq_true rfl), (Nat.le_of_ble_eq_true rfl)⟩) hG (fun y5 u5 H locs hp hG => ?_)
    obtain ⟨i5, j5, f5⟩ := u5
    obtain ⟨rfl, hR5, hK5⟩ := hp
    replace hG : gw G base s.heap (L1, K1, n1, i5, j5, rQ1, f5, fR1) H locs := hG
    have hP5 : StpX (L, K, n, rI, rJ, rQ, fI, fR) ad α (L1, K1, n1, i5, j5, rQ1, f5, fR1) ad1 (aJoin (aSet (aNew α) (7 + a_nd α) (a_S (aNew α) (7 + a_nd α)) (a_L (aNew α) (7 + a_nd α)) (1 <<< (nI ee &&& 31)) (a_T (aNew α) (7 + a_nd α)) (a_M (aNew α) (7 + a_nd α))) r (7 + a_nd α)) := hP2.tr (StpX.of rfl ⟨hR5, hK5⟩)
    refine vx_ret ?_
    refine W.widen (k := 12) (n := 100) (by omega) (by omega) ?_
    exact W.iret (v := (nI (a_nd α + 1) - 1)) hx hb hr (fun t9 h9 hW9 => ⟨⟨(nI (a_nd α + 1) - 1), (((L1, K1, n1, i5, j5, rQ1, f5, fR1), ad1), r, ee), rfl, ⟨⟨hr6, rfl⟩, ⟨he32, rfl⟩, nI_pred (a_nd α), hP5⟩, hG.at h9⟩, hG.2.2.1.F h9⟩) hG.2.2.1.2.2 dX2_twice_50
set_option maxHeartbeats 4000000 in
set_option maxRecDepth 100000 in
/-- timed(i, e, time, in) -/
theorem c_timed (l : Launch) (G : gG) (base : Nat) {L : List Nat} {K n : Nat → Nat} {rI : Nat → Nat → Int32} {rJ : Nat → Nat → Int64} {rQ : Nat → Nat → Option Nat} {fI : Nat → Nat → Int32} {fR : Nat → Nat → Option Nat} (hl0 : l.stackTraces = false) {ad : Nat → Nat} {α : aT} (hR : RepX (L, K, n, rI, rJ, rQ, fI, fR) ad α) {i el tm : Int32} {on : Bool} : vx_Met l yX2_timed wsX2_timed ({ frames := 7, cells := 12, slots := 100, locals := 111 }) (va_Pc [.ref (ad 0), .int i, .int el, .int tm, .int (bi on)] (g_Px G base (L, K, n, rI, rJ, rQ, fI, fR))) (g_Qi G base (fun u : (gS × (Nat → Nat)) × Nat × Nat => u.1.1) (fun x u => (u.2.1 < 6 ∧ i = nI u.2.1) ∧ (u.2.2 < 32 ∧ el = nI u.2.2) ∧ (¬ tm < 0 ∧ tm ≤ 1000000) ∧ x = nI (a_nd α) ∧ StpX (L, K, n, rI, rJ, rQ, fI, fR) ad α u.1.1 u.1.2 (aTimed α u.2.1 u.2.2 tm on))) (g_XC G base (L, K, n, rI, rJ, rQ, fI, fR) (fun E => (E = "java/lang/IndexOutOfBoundsException" ∧ ¬ (okI i 6 ∧ okI el 32)) ∨ (E = "java/lang/IllegalArgumentException" ∧ (okI i 6 ∧ okI el 32) ∧ ¬ (¬ tm < 0 ∧ tm ≤ 1000000)) ∨ (E = "java/lang/IllegalStateException" ∧ (okI i 6 ∧ okI el 32) ∧ (¬ tm < 0 ∧ tm ≤ 1000000) ∧ ¬ a_nd α < 250))) 12 100 (g_A base) := by
  have hDk : isDk L K n fR (ad 0) (ad 1) (ad 2) (ad 3) (ad 35) (ad 4) := hR.1.2.2.1
  have hD : isDt L K n fR (ad 3) (ad 5) (ad 6) (ad 7) (ad 8) (ad 9) (ad 10) := hR.1.2.2.2.1
  have hcnt : fI (ad 3) 6 = nI (a_cnt α) := hR.2.2.2.1.1
  have hmc : fI (ad 0) 5 = nI (a_nd α) := hR.2.1
  have hnd : a_nd α ≤ 250 := hR.1.1
  have hc250 : a_cnt α ≤ 250 := Nat.le_trans hR.2.2.1 hnd
  have hDk0 := hDk
  obtain ⟨hLx, hKx, h0x, h1x, h2x, h3x, h4x, hLra, hKra, hnra, hLma, hKma, hnma, hLod, hKod, hnod⟩ := hDk0
  have hD0 := hD
  obtain ⟨hLd, hKd, h0d, h1d, h2d, h3d, h4d, h5d, hLdr, hKdr, hndr, hLdn, hKdn, hndn, hLdk, hKdk, hndk, hLdp, hKdp, hndp, hLdv, hKdv, hndv, hLdg, hKdg, hndg⟩ := hD0
  have hgr : ∀ r, r < 6 → rI (ad 10) r = nI (a_g α r) ∧ a_g α r ≤ 100 := hR.2.2.2.1.2.1
  refine vx_ofW (cc := cX2_timed) (maxL := 7) (ret := (some .int)) (by decide) rfl ?_
  intro p e s m args below meth c s₁ B hml hnt hv
  obtain ⟨rfl, hPr, hX⟩ := hv
  have hx := B.exec
  have hb := B.bytes
  have hr := B.returns
  have hts := atoms_spec (ws := wsX2_timed) B.pre
  have hown : s.vm.findClass RX2 = some m.cls := findClass_of_methodNamed B.named
  have hlocks := B.notSynchronized
  have hin : meth.name = "timed" := (name_of_methodNamed B.named B.method).1
  have hK := hPr.2.2
  have hG := hPr.gw
  have hl := lv_entry ([.ref (ad 0), .int i, .int el, .int tm, .int (bi on)]) (n := 7) (Nat.le_of_ble_eq_true rfl)
  rw [lg_entry_eq]
  generalize (lg_sl ([.ref (ad 0), .int i, .int el, .int tm, .int (bi on)]) ++ List.replicate (7 - (lg_sl ([.ref (ad 0), .int i, .int el, .int tm, .int (bi on)])).length) Slot.unset).toArray = ls at hl ⊢
  have hl : lv_has ls 7 [(0, .ref (ad 0)), (1, .int i), (2, .int el), (3, .int tm), (4, .int (bi on))] := hl
  refine g_start hPr (fun H locs hG => ?_)
  refine lv_aload_n hx hb dX2_timed_0 rfl (lv_at hl 0 rfl) ?_
  refine lv_iload_n hx hb dX2_timed_1 rfl (lv_at hl 1 rfl) ?_
  refine g_xr (vx_runV (As := [.int i]) (rest := []) ⟨hx, hb, hml, hown, hts⟩ (c_replicaAt l G base hl0 hDk (sa := fun r => ad (11 + 4 * r)) hR.1.2.2.2.2.2.1 (i := i)) (cwV 1 hts gX2_timed_X2_replicaAt rfl rfl rfl (by decide +kernel) ⟨(Nat.le_of_ble_eq_true rfl), (Nat.le_of_ble_eq_true rfl)⟩) (g_px2 hK hX hG hLx hKx) rfl rfl hl.1 rfl (lv_room (Nat.le_of_ble_eq_true rfl)) dX2_timed_2 ⟨(Nat.le_of_ble_eq_true rfl), (Nat.le_of_ble_eq_true rfl)⟩) hG (fun E ce q9 H locs hpx hG hce hcv hcl => ?_) (fun a0 r H locs hp hG => ?_)
  · exact g_out hnt hlocks hce hcv hcl (Or.inl ⟨hpx.1, fun z => hpx.2 z.1⟩) hG (by omega) (by omega)
  obtain ⟨hr6, rfl, ea⟩ := hp
  replace ea : a0 = ad (11 + 4 * r) := ea
  subst ea
  have hSr : isSt L K n fR (ad (11 + 4 * r)) (ad (12 + 4 * r)) (ad (13 + 4 * r)) (ad (14 + 4 * r)) := repX_st hR (show r < 7 + a_nd α by omega)
  have hS0 := hSr
  obtain ⟨hLar, hKar, h0ar, h1ar, h2ar, hLbr, hKbr, hnbr, hLcr, hKcr, hncr, hLer, hKer, hner⟩ := hS0
  refine lv_astore (lv' := [(5, .ref (ad (11 + 4 * r))), (0, .ref (ad 0)), (1, .int (nI r)), (2, .int el), (3, .int tm), (4, .int (bi on))]) hx hb dX2_timed_5 hl (by decide) rfl (fun ls hl => ?_)
  refine lv_iload_n hx hb dX2_timed_7 rfl (lv_at hl 3 rfl) ?_
  refine lv_bipush (v := 32) hx hb dX2_timed_8 (by decide) ?_
  refine g_xv (vx_runS (As := [.int el, .int 32]) (rest := []) ⟨hx, hb, hml, hown, hts⟩ (c_requireIndex l G base hl0 (i := el) (b := 32)) (cwS 2 hts gX2_timed_X2_requireIndex rfl rfl rfl (by decide +kernel) ⟨(Nat.le_of_ble_eq_true rfl), (Nat.le_of_ble_eq_true rfl)⟩) (g_psx hK hX hG) rfl rfl hl.1 rfl (lv_room (Nat.le_of_ble_eq_true rfl)) dX2_timed_10 ⟨(Nat.le_of_ble_eq_true rfl), (Nat.le_of_ble_eq_true rfl)⟩) hG (fun E ce q9 H locs hpx hG hce hcv hcl => ?_) (fun _ H locs hp hG => ?_)
  · exact g_out hnt hlocks hce hcv hcl (Or.inl ⟨hpx.1, fun z => okI_no (by decide) hpx.2 z.2⟩) hG (by omega) (by omega)
  obtain ⟨ee, he32, rfl⟩ := okI_of (N := 32) (by decide) hp.1 hp.2
  refine lv_iload_n hx hb dX2_timed_13 rfl (lv_at hl 4 rfl) ?_
  refine g_xv (vx_runS (As := [.int tm]) (rest := []) ⟨hx, hb, hml, hown, hts⟩ (c_requireTime l G base hl0 (i := tm)) (cwS 1 hts gX2_timed_X2_requireTime rfl rfl rfl (by decide +kernel) ⟨(Nat.le_of_ble_eq_true rfl), (Nat.le_of_ble_eq_true rfl)⟩) (g_psx hK hX hG) rfl rfl hl.1 rfl (lv_room (Nat.le_of_ble_eq_true rfl)) dX2_timed_14 ⟨(Nat.le_of_ble_eq_true rfl), (Nat.le_of_ble_eq_true rfl)⟩) hG (fun E ce q9 H locs hpx hG hce hcv hcl => ?_) (fun _ H locs htm hG => ?_)
  · exact g_out hnt hlocks hce hcv hcl (Or.inr (Or.inl ⟨hpx.1, ⟨⟨r, hr6, rfl⟩, ⟨ee, he32, rfl⟩⟩, fun z => hpx.2.elim z.1 (fun q => q z.2)⟩)) hG (by omega) (by omega)
  refine lv_aload_n hx hb dX2_timed_17 rfl (lv_at hl 1 rfl) ?_
  refine g_xr (vx_runV (As := []) (rest := []) ⟨hx, hb, hml, hown, hts⟩ (c_openDelta l G base hl0 hDk hnd hmc) (cwV 0 hts gX2_timed_X2_openDelta rfl rfl rfl (by decide +kernel) ⟨(Nat.le_of_ble_eq_true rfl), (Nat.le_of_ble_eq_true rfl)⟩) (g_px2 hK hX hG hLx hKx) rfl rfl hl.1 rfl (lv_room (Nat.le_of_ble_eq_true rfl)) dX2_timed_18 ⟨(Nat.le_of_ble_eq_true rfl), (Nat.le_of_ble_eq_true rfl)⟩) hG (fun E ce q9 H locs hpx hG hce hcv hcl => ?_) (fun a1 u H locs hp hG => ?_)
  · exact g_out hnt hlocks hce hcv hcl (Or.inr (Or.inr ⟨hpx.1, ⟨⟨r, hr6, rfl⟩, ⟨ee, he32, rfl⟩⟩, htm, hpx.2⟩)) hG (by omega) (by omega)
  obtain ⟨⟨L1, K1, n1, rI1, rJ1, rQ1, fI1, fR1⟩, bs, bl, bt⟩ := u
  obtain ⟨hlt, hN⟩ := hp
  have hP1 := StpX.new hR hlt hN
  obtain ⟨ad1, ead⟩ : ∃ z, z = adN ad (11 + 4 * (7 + a_nd α)) a1 bs bl bt := ⟨_, rfl⟩
  rw [← ead] at hP1
  have hlo : ∀ {i : Nat}, i < 11 + 4 * (7 + a_nd α) → ad i = ad1 i := fun hi => by rw [ead]; exact (adN_lt hi).symm
  have ea : a1 = ad1 (11 + 4 * (7 + a_nd α)) := by rw [ead]; exact adN_0.symm
  clear ead hN
  subst ea
  replace hG : gw G base s.heap (L1, K1, n1, rI1, rJ1, rQ1, fI1, fR1) H locs := hG
  rw [hlo (i := 0) (by omega), hlo (i := 11 + 4 * r) (by omega)] at hl
  have hR1 := hP1.1
  have hlt1 : a_nd α < 250 := hlt
  have hDk1 : isDk L1 K1 n1 fR1 (ad1 0) (ad1 1) (ad1 2) (ad1 3) (ad1 35) (ad1 4) := hR1.1.2.2.1
  have hD1 : isDt L1 K1 n1 fR1 (ad1 3) (ad1 5) (ad1 6) (ad1 7) (ad1 8) (ad1 9) (ad1 10) := hR1.1.2.2.2.1
  have hDk0 := hDk1
  obtain ⟨hLx1, hKx1, h0x1, h1x1, h2x1, h3x1, h4x1, hLra1, hKra1, hnra1, hLma1, hKma1, hnma1, hLod1, hKod1, hnod1⟩ := hDk0
  have hD0 := hD1
  obtain ⟨hLd1, hKd1, h0d1, h1d1, h2d1, h3d1, h4d1, h5d1, hLdr1, hKdr1, hndr1, hLdn1, hKdn1, hndn1, hLdk1, hKdk1, hndk1, hLdp1, hKdp1, hndp1, hLdv1, hKdv1, hndv1, hLdg1, hKdg1, hndg1⟩ := hD0
  have hcnt1 : fI1 (ad1 3) 6 = nI (a_cnt α) := hR1.2.2.2.1.1
  have hmc1 : fI1 (ad1 0) 5 = nI (a_nd α + 1) := hR1.2.1
  have hDl : 7 + a_nd α < 7 + (a_nd α + 1) := by omega
  have hSr : isSt L1 K1 n1 fR1 (ad1 (11 + 4 * r)) (ad1 (12 + 4 * r)) (ad1 (13 + 4 * r)) (ad1 (14 + 4 * r)) := repX_st hR1 (show r < 7 + (a_nd α + 1) by omega)
  have hS0 := hSr
  obtain ⟨hLar, hKar, h0ar, h1ar, h2ar, hLbr, hKbr, hnbr, hLcr, hKcr, hncr, hLer, hKer, hner⟩ := hS0
  have hSD : isSt L1 K1 n1 fR1 (ad1 (11 + 4 * (7 + a_nd α))) (ad1 (12 + 4 * (7 + a_nd α))) (ad1 (13 + 4 * (7 + a_nd α))) (ad1 (14 + 4 * (7 + a_nd α))) := repX_st hR1 hDl
  have hS0 := hSD
  obtain ⟨hLaD, hKaD, h0aD, h1aD, h2aD, hLbD, hKbD, hnbD, hLcD, hKcD, hncD, hLeD, hKeD, hneD⟩ := hS0
  refine lv_astore (lv' := [(6, .ref (ad1 (11 + 4 * (7 + a_nd α)))), (5, .ref (ad1 (11 + 4 * r))), (0, .ref (ad1 0)), (1, .int (nI r)), (2, .int (nI ee)), (3, .int tm), (4, .int (bi on))]) hx hb dX2_timed_21 hl (by decide) rfl (fun ls hl => ?_)
  refine lv_aload hx hb dX2_timed_23 (lv_at hl 0 rfl) ?_
  refine r_State_stamps hx hb hts (by decide +kernel) hown hK hG hLaD hKaD h2aD (hts (.fieldLink RX2 85 "DotStores$State" "stamps" "[I") (by decide +kernel)) dX2_timed_25 ?_
  refine lv_iload_n hx hb dX2_timed_28 rfl (lv_at hl 4 rfl) ?_
  refine lv_iload_n hx hb dX2_timed_29 rfl (lv_at hl 5 rfl) ?_
  refine lv_iload_n hx hb dX2_timed_30 rfl (lv_at hl 3 rfl) ?_
  refine lv_iload hx hb dX2_timed_31 (lv_at hl 6 rfl) ?_
  refine g_calli (va_runS (As := [.int tm, .int (nI r), .int (bi on)]) (rest := [.int (nI ee), .ref (ad1 (14 + 4 * (7 + a_nd α)))]) ⟨hx, hb, hml, hown, hts⟩ (c_stamp l G base (t := tm) (r := r) (on := on)) (cwS 3 hts gX2_timed_X2_stamp rfl rfl rfl (by decide +kernel) ⟨(Nat.le_of_ble_eq_true rfl), (Nat.le_of_ble_eq_true rfl)⟩) (g_ps hK hG) rfl rfl hl.1 rfl (lv_room (Nat.le_of_ble_eq_true rfl)) dX2_timed_33 ⟨(Nat.le_of_ble_eq_true rfl), (Nat.le_of_ble_eq_true rfl)⟩) hG (fun y2 _ H locs hp hG => ?_)
  subst hp
  refine g_iast hx hb hK hG hLeD hKeD (ee) rfl (by rw [hneD]; exact he32) (by rw [hneD]; decide) dX2_timed_36 (fun H locs hG => ?_)
  refine lv_aload_n hx hb dX2_timed_37 rfl (lv_at hl 2 rfl) ?_
  refine lv_aload hx hb dX2_timed_38 (lv_at hl 1 rfl) ?_
  refine lv_aload hx hb dX2_timed_40 (lv_at hl 0 rfl) ?_
  obtain ⟨i2, ei2⟩ : ∃ z, z = g_up rI1 (ad1 (14 + 4 * (7 + a_nd α))) ee (stampI tm r on) := ⟨_, rfl⟩
  replace hG : gw G base s.heap (L1, K1, n1, i2, rJ1, rQ1, fI1, fR1) H locs := by rw [ei2]; exact hG
  have hP2 : StpX (L, K, n, rI, rJ, rQ, fI, fR) ad α (L1, K1, n1, i2, rJ1, rQ1, fI1, fR1) ad1 (aSet (aNew α) (7 + a_nd α) (a_S (aNew α) (7 + a_nd α)) (a_L (aNew α) (7 + a_nd α)) (a_P (aNew α) (7 + a_nd α)) (a_T (aNew α) (7 + a_nd α)) (u1 (a_M (aNew α) (7 + a_nd α)) ee (stampI tm r on))) := by rw [ei2]; exact hP1.tr (StpX.of rfl (repX_stamp hR1 hDl))
  refine g_calli (va_runV (As := [.ref (ad1 (11 + 4 * r)), .ref (ad1 (11 + 4 * (7 + a_nd α)))]) (rest := []) ⟨hx, hb, hml, hown, hts⟩ (c_finish l G base hP2.1 (k := r) (o := 7 + a_nd α) (show r < 7 + (a_nd α + 1) by omega) hDl) (cwV 2 hts gX2_timed_X2_finish rfl rfl rfl (by decide +kernel) ⟨(Nat.le_of_ble_eq_true rfl), (Nat.le_of_ble_eq_true rfl)⟩) (g_pv2 hK hG hLx1 hKx1) rfl rfl hl.1 rfl (lv_room (Nat.le_of_ble_eq_true rfl)) dX2_timed_42 ⟨(Nat.le_of_ble_eq_true rfl), (Nat.le_of_ble_eq_true rfl)⟩) hG (fun y5 u5 H locs hp hG => ?_)
  obtain ⟨i5, j5, f5⟩ := u5
  obtain ⟨rfl, hR5, hK5⟩ := hp
  replace hG : gw G base s.heap (L1, K1, n1, i5, j5, rQ1, f5, fR1) H locs := hG
  have hP5 : StpX (L, K, n, rI, rJ, rQ, fI, fR) ad α (L1, K1, n1, i5, j5, rQ1, f5, fR1) ad1 (aJoin (aSet (aNew α) (7 + a_nd α) (a_S (aNew α) (7 + a_nd α)) (a_L (aNew α) (7 + a_nd α)) (a_P (aNew α) (7 + a_nd α)) (a_T (aNew α) (7 + a_nd α)) (u1 (a_M (aNew α) (7 + a_nd α)) ee (stampI tm r on))) r (7 + a_nd α)) := hP2.tr (StpX.of rfl ⟨hR5, hK5⟩)
  refine vx_ret ?_
  refine W.widen (k := 12) (n := 100) (by omega) (by omega) ?_
  exact W.iret (v := (nI (a_nd α + 1) - 1)) hx hb hr (fun t9 h9 hW9 => ⟨⟨(nI (a_nd α + 1) - 1), (((L1, K1, n1, i5, j5, rQ1, f5, fR1), ad1), r, ee), rfl, ⟨⟨hr6, rfl⟩, ⟨he32, rfl⟩, htm, nI_pred (a_nd α), hP5⟩, hG.at h9⟩, hG.2.2.1.F h9⟩) hG.2.2.1.2.2 dX2_timed_45
set_option maxHeartbeats 4000000 in
set_option maxRecDepth 100000 in
/-- join -/
theorem c_join (l : Launch) (G : gG) (base : Nat) {L : List Nat} {K n : Nat → Nat} {rI : Nat → Nat → Int32} {rJ : Nat → Nat → Int64} {rQ : Nat → Nat → Option Nat} {fI : Nat → Nat → Int32} {fR : Nat → Nat → Option Nat} (hl0 : l.stackTraces = false) {ad : Nat → Nat} {α : aT} (hR : RepX (L, K, n, rI, rJ, rQ, fI, fR) ad α) {i j : Int32} : vx_Met l yX2_join wsX2_join ({ frames := 7, cells := 12, slots := 100, locals := 111 }) (va_Pc [.ref (ad 0), .int i, .int j] (g_Px G base (L, K, n, rI, rJ, rQ, fI, fR))) (g_Qi G base (fun u : ((Nat → Nat → Int32) × (Nat → Nat → Int64) × (Nat → Nat → Int32)) × Nat × Nat × Bool => (L, K, n, u.1.1, u.1.2.1, rQ, u.1.2.2, fR)) (fun x u => (u.2.1 < 6 ∧ i = nI u.2.1) ∧ (u.2.2.1 < (a_nd α) ∧ j = nI u.2.2.1) ∧ x = bi u.2.2.2 ∧ (u.2.2.2 = false ↔ sEq (aJoin α u.2.1 (7 + u.2.2.1)) α u.2.1 u.2.1) ∧ StpX (L, K, n, rI, rJ, rQ, fI, fR) ad α (L, K, n, u.1.1, u.1.2.1, rQ, u.1.2.2, fR) ad (aJoin α u.2.1 (7 + u.2.2.1)))) (g_XC G base (L, K, n, rI, rJ, rQ, fI, fR) (fun E => E = "java/lang/IndexOutOfBoundsException" ∧ ¬ (okI i 6 ∧ okI j (a_nd α)))) 12 100 (g_A base) := by
  have hDk : isDk L K n fR (ad 0) (ad 1) (ad 2) (ad 3) (ad 35) (ad 4) := hR.1.2.2.1
  have hD : isDt L K n fR (ad 3) (ad 5) (ad 6) (ad 7) (ad 8) (ad 9) (ad 10) := hR.1.2.2.2.1
  have hcnt : fI (ad 3) 6 = nI (a_cnt α) := hR.2.2.2.1.1
  have hmc : fI (ad 0) 5 = nI (a_nd α) := hR.2.1
  have hnd : a_nd α ≤ 250 := hR.1.1
  have hc250 : a_cnt α ≤ 250 := Nat.le_trans hR.2.2.1 hnd
  have hDk0 := hDk
  obtain ⟨hLx, hKx, h0x, h1x, h2x, h3x, h4x, hLra, hKra, hnra, hLma, hKma, hnma, hLod, hKod, hnod⟩ := hDk0
  have hD0 := hD
  obtain ⟨hLd, hKd, h0d, h1d, h2d, h3d, h4d, h5d, hLdr, hKdr, hndr, hLdn, hKdn, hndn, hLdk, hKdk, hndk, hLdp, hKdp, hndp, hLdv, hKdv, hndv, hLdg, hKdg, hndg⟩ := hD0
  have hgr : ∀ r, r < 6 → rI (ad 10) r = nI (a_g α r) ∧ a_g α r ≤ 100 := hR.2.2.2.1.2.1
  refine vx_ofW (cc := cX2_join) (maxL := 4) (ret := (some .int)) (by decide) rfl ?_
  intro p e s m args below meth c s₁ B hml hnt hv
  obtain ⟨rfl, hPr, hX⟩ := hv
  have hx := B.exec
  have hb := B.bytes
  have hr := B.returns
  have hts := atoms_spec (ws := wsX2_join) B.pre
  have hown : s.vm.findClass RX2 = some m.cls := findClass_of_methodNamed B.named
  have hlocks := B.notSynchronized
  have hin : meth.name = "join" := (name_of_methodNamed B.named B.method).1
  have hK := hPr.2.2
  have hG := hPr.gw
  have hl := lv_entry ([.ref (ad 0), .int i, .int j]) (n := 4) (Nat.le_of_ble_eq_true rfl)
  rw [lg_entry_eq]
  generalize (lg_sl ([.ref (ad 0), .int i, .int j]) ++ List.replicate (4 - (lg_sl ([.ref (ad 0), .int i, .int j])).length) Slot.unset).toArray = ls at hl ⊢
  have hl : lv_has ls 4 [(0, .ref (ad 0)), (1, .int i), (2, .int j)] := hl
  refine g_start hPr (fun H locs hG => ?_)
  refine lv_aload_n hx hb dX2_join_0 rfl (lv_at hl 0 rfl) ?_
  refine lv_iload_n hx hb dX2_join_1 rfl (lv_at hl 1 rfl) ?_
  refine g_xr (vx_runV (As := [.int i]) (rest := []) ⟨hx, hb, hml, hown, hts⟩ (c_replicaAt l G base hl0 hDk (sa := fun r => ad (11 + 4 * r)) hR.1.2.2.2.2.2.1 (i := i)) (cwV 1 hts gX2_join_X2_replicaAt rfl rfl rfl (by decide +kernel) ⟨(Nat.le_of_ble_eq_true rfl), (Nat.le_of_ble_eq_true rfl)⟩) (g_px2 hK hX hG hLx hKx) rfl rfl hl.1 rfl (lv_room (Nat.le_of_ble_eq_true rfl)) dX2_join_2 ⟨(Nat.le_of_ble_eq_true rfl), (Nat.le_of_ble_eq_true rfl)⟩) hG (fun E ce q9 H locs hpx hG hce hcv hcl => ?_) (fun a0 r H locs hp hG => ?_)
  · exact g_out hnt hlocks hce hcv hcl ⟨hpx.1, fun z => hpx.2 z.1⟩ hG (by omega) (by omega)
  obtain ⟨hr6, rfl, ea⟩ := hp
  replace ea : a0 = ad (11 + 4 * r) := ea
  subst ea
  have hSr : isSt L K n fR (ad (11 + 4 * r)) (ad (12 + 4 * r)) (ad (13 + 4 * r)) (ad (14 + 4 * r)) := repX_st hR (show r < 7 + a_nd α by omega)
  have hS0 := hSr
  obtain ⟨hLar, hKar, h0ar, h1ar, h2ar, hLbr, hKbr, hnbr, hLcr, hKcr, hncr, hLer, hKer, hner⟩ := hS0
  refine lv_astore_n (lv' := [(3, .ref (ad (11 + 4 * r))), (0, .ref (ad 0)), (1, .int (nI r)), (2, .int j)]) hx hb dX2_join_5 rfl hl (by decide) rfl (fun ls hl => ?_)
  refine lv_aload_n hx hb dX2_join_6 rfl (lv_at hl 0 rfl) ?_
  refine lv_aload_n hx hb dX2_join_7 rfl (lv_at hl 1 rfl) ?_
  refine lv_iload_n hx hb dX2_join_8 rfl (lv_at hl 3 rfl) ?_
  refine g_xr (vx_runV (As := [.int j]) (rest := [.ref (ad (11 + 4 * r))]) ⟨hx, hb, hml, hown, hts⟩ (c_deltaAt l G base hl0 hDk (nd := a_nd α) (sa := fun r => ad (11 + 4 * (7 + r))) hnd hR.1.2.2.2.2.2.2.1 hR.1.2.2.2.2.2.2.2 (i := j)) (cwV 1 hts gX2_join_X2_deltaAt rfl rfl rfl (by decide +kernel) ⟨(Nat.le_of_ble_eq_true rfl), (Nat.le_of_ble_eq_true rfl)⟩) (g_px2 hK hX hG hLx hKx) rfl rfl hl.1 rfl (lv_room (Nat.le_of_ble_eq_true rfl)) dX2_join_9 ⟨(Nat.le_of_ble_eq_true rfl), (Nat.le_of_ble_eq_true rfl)⟩) hG (fun E ce q9 H locs hpx hG hce hcv hcl => ?_) (fun a1 d H locs hp hG => ?_)
  · exact g_out hnt hlocks hce hcv hcl ⟨hpx.1, fun z => hpx.2 z.2⟩ hG (by omega) (by omega)
  obtain ⟨hd, rfl, ea⟩ := hp
  replace ea : a1 = ad (11 + 4 * (7 + d)) := ea
  subst ea
  have hSd : isSt L K n fR (ad (11 + 4 * (7 + d))) (ad (12 + 4 * (7 + d))) (ad (13 + 4 * (7 + d))) (ad (14 + 4 * (7 + d))) := repX_st hR (show 7 + d < 7 + a_nd α by omega)
  have hS0 := hSd
  obtain ⟨hLad, hKad, h0ad, h1ad, h2ad, hLbd, hKbd, hnbd, hLcd, hKcd, hncd, hLed, hKed, hned⟩ := hS0
  refine g_calli (va_runV (As := [.ref (ad (11 + 4 * (7 + d)))]) (rest := []) ⟨hx, hb, hml, hown, hts⟩ (c_take l G base hSr hSd (repX_ne hR (by omega) (by omega) (by omega))) (cwV 1 hts gX2_join_X1_take rfl rfl rfl (by decide +kernel) ⟨(Nat.le_of_ble_eq_true rfl), (Nat.le_of_ble_eq_true rfl)⟩) (g_pv1 hK hG hLar hKar) rfl rfl hl.1 rfl (lv_room (Nat.le_of_ble_eq_true rfl)) dX2_join_12 ⟨(Nat.le_of_ble_eq_true rfl), (Nat.le_of_ble_eq_true rfl)⟩) hG (fun y1 u H locs hp hG => ?_)
  obtain ⟨cg, r1, j1, f1⟩ := u
  obtain ⟨hcg, htd, htt, hf1, hfl⟩ := hp
  replace hG : gw G base s.heap (L, K, n, r1, j1, rQ, f1, fR) H locs := hG
  obtain ⟨hR1, hk1, hq1⟩ := repX_join hR (k := r) (o := 7 + d) (by omega) (by omega) htd htt hf1
  replace hcg : y1 = bi cg := hcg
  subst hcg
  refine g_calli (va_runS (As := [.int (bi cg)]) (rest := []) ⟨hx, hb, hml, hown, hts⟩ (c_bit l G base (b := cg)) (cwS 1 hts gX2_join_X2_bit rfl rfl rfl (by decide +kernel) ⟨(Nat.le_of_ble_eq_true rfl), (Nat.le_of_ble_eq_true rfl)⟩) (g_ps hK hG) rfl rfl hl.1 rfl (lv_room (Nat.le_of_ble_eq_true rfl)) dX2_join_15 ⟨(Nat.le_of_ble_eq_true rfl), (Nat.le_of_ble_eq_true rfl)⟩) hG (fun y2 _ H locs hp hG => ?_)
  subst hp
  refine vx_ret ?_
  refine W.widen (k := 12) (n := 100) (by omega) (by omega) ?_
  exact W.iret (v := (bi (cg))) hx hb hr (fun t9 h9 hW9 => ⟨⟨(bi (cg)), ((r1, j1, f1), r, d, cg), rfl, ⟨⟨hr6, rfl⟩, ⟨hd, rfl⟩, rfl, hfl.trans hq1, StpX.of rfl ⟨hR1, hk1⟩⟩, hG.at h9⟩, hG.2.2.1.F h9⟩) hG.2.2.1.2.2 dX2_join_18
set_option maxHeartbeats 4000000 in
set_option maxRecDepth 100000 in
/-- merge -/
theorem c_merge (l : Launch) (G : gG) (base : Nat) {L : List Nat} {K n : Nat → Nat} {rI : Nat → Nat → Int32} {rJ : Nat → Nat → Int64} {rQ : Nat → Nat → Option Nat} {fI : Nat → Nat → Int32} {fR : Nat → Nat → Option Nat} (hl0 : l.stackTraces = false) {ad : Nat → Nat} {α : aT} (hR : RepX (L, K, n, rI, rJ, rQ, fI, fR) ad α) {i j : Int32} : vx_Met l yX2_merge wsX2_merge ({ frames := 7, cells := 12, slots := 100, locals := 111 }) (va_Pc [.ref (ad 0), .int i, .int j] (g_Px G base (L, K, n, rI, rJ, rQ, fI, fR))) (g_Qi G base (fun u : ((Nat → Nat → Int32) × (Nat → Nat → Int64) × (Nat → Nat → Int32)) × Nat × Nat × Bool => (L, K, n, u.1.1, u.1.2.1, rQ, u.1.2.2, fR)) (fun x u => (u.2.1 < 6 ∧ i = nI u.2.1) ∧ (u.2.2.1 < 6 ∧ j = nI u.2.2.1) ∧ x = bi u.2.2.2 ∧ (u.2.2.2 = false ↔ sEq (aJoin α u.2.1 u.2.2.1) α u.2.1 u.2.1) ∧ StpX (L, K, n, rI, rJ, rQ, fI, fR) ad α (L, K, n, u.1.1, u.1.2.1, rQ, u.1.2.2, fR) ad (aJoin α u.2.1 u.2.2.1))) (g_XC G base (L, K, n, rI, rJ, rQ, fI, fR) (fun E => E = "java/lang/IndexOutOfBoundsException" ∧ ¬ (okI i 6 ∧ okI j 6))) 12 100 (g_A base) := by
  have hDk : isDk L K n fR (ad 0) (ad 1) (ad 2) (ad 3) (ad 35) (ad 4) := hR.1.2.2.1
  have hD : isDt L K n fR (ad 3) (ad 5) (ad 6) (ad 7) (ad 8) (ad 9) (ad 10) := hR.1.2.2.2.1
  have hcnt : fI (ad 3) 6 = nI (a_cnt α) := hR.2.2.2.1.1
  have hmc : fI (ad 0) 5 = nI (a_nd α) := hR.2.1
  have hnd : a_nd α ≤ 250 := hR.1.1
  have hc250 : a_cnt α ≤ 250 := Nat.le_trans hR.2.2.1 hnd
  have hDk0 := hDk
  obtain ⟨hLx, hKx, h0x, h1x, h2x, h3x, h4x, hLra, hKra, hnra, hLma, hKma, hnma, hLod, hKod, hnod⟩ := hDk0
  have hD0 := hD
  obtain ⟨hLd, hKd, h0d, h1d, h2d, h3d, h4d, h5d, hLdr, hKdr, hndr, hLdn, hKdn, hndn, hLdk, hKdk, hndk, hLdp, hKdp, hndp, hLdv, hKdv, hndv, hLdg, hKdg, hndg⟩ := hD0
  have hgr : ∀ r, r < 6 → rI (ad 10) r = nI (a_g α r) ∧ a_g α r ≤ 100 := hR.2.2.2.1.2.1
  refine vx_ofW (cc := cX2_merge) (maxL := 4) (ret := (some .int)) (by decide) rfl ?_
  intro p e s m args below meth c s₁ B hml hnt hv
  obtain ⟨rfl, hPr, hX⟩ := hv
  have hx := B.exec
  have hb := B.bytes
  have hr := B.returns
  have hts := atoms_spec (ws := wsX2_merge) B.pre
  have hown : s.vm.findClass RX2 = some m.cls := findClass_of_methodNamed B.named
  have hlocks := B.notSynchronized
  have hin : meth.name = "merge" := (name_of_methodNamed B.named B.method).1
  have hK := hPr.2.2
  have hG := hPr.gw
  have hl := lv_entry ([.ref (ad 0), .int i, .int j]) (n := 4) (Nat.le_of_ble_eq_true rfl)
  rw [lg_entry_eq]
  generalize (lg_sl ([.ref (ad 0), .int i, .int j]) ++ List.replicate (4 - (lg_sl ([.ref (ad 0), .int i, .int j])).length) Slot.unset).toArray = ls at hl ⊢
  have hl : lv_has ls 4 [(0, .ref (ad 0)), (1, .int i), (2, .int j)] := hl
  refine g_start hPr (fun H locs hG => ?_)
  refine lv_aload_n hx hb dX2_merge_0 rfl (lv_at hl 0 rfl) ?_
  refine lv_iload_n hx hb dX2_merge_1 rfl (lv_at hl 1 rfl) ?_
  refine g_xr (vx_runV (As := [.int i]) (rest := []) ⟨hx, hb, hml, hown, hts⟩ (c_replicaAt l G base hl0 hDk (sa := fun r => ad (11 + 4 * r)) hR.1.2.2.2.2.2.1 (i := i)) (cwV 1 hts gX2_merge_X2_replicaAt rfl rfl rfl (by decide +kernel) ⟨(Nat.le_of_ble_eq_true rfl), (Nat.le_of_ble_eq_true rfl)⟩) (g_px2 hK hX hG hLx hKx) rfl rfl hl.1 rfl (lv_room (Nat.le_of_ble_eq_true rfl)) dX2_merge_2 ⟨(Nat.le_of_ble_eq_true rfl), (Nat.le_of_ble_eq_true rfl)⟩) hG (fun E ce q9 H locs hpx hG hce hcv hcl => ?_) (fun a0 r H locs hp hG => ?_)
  · exact g_out hnt hlocks hce hcv hcl ⟨hpx.1, fun z => hpx.2 z.1⟩ hG (by omega) (by omega)
  obtain ⟨hr6, rfl, ea⟩ := hp
  replace ea : a0 = ad (11 + 4 * r) := ea
  subst ea
  have hSr : isSt L K n fR (ad (11 + 4 * r)) (ad (12 + 4 * r)) (ad (13 + 4 * r)) (ad (14 + 4 * r)) := repX_st hR (show r < 7 + a_nd α by omega)
  have hS0 := hSr
  obtain ⟨hLar, hKar, h0ar, h1ar, h2ar, hLbr, hKbr, hnbr, hLcr, hKcr, hncr, hLer, hKer, hner⟩ := hS0
  refine lv_astore_n (lv' := [(3, .ref (ad (11 + 4 * r))), (0, .ref (ad 0)), (1, .int (nI r)), (2, .int j)]) hx hb dX2_merge_5 rfl hl (by decide) rfl (fun ls hl => ?_)
  refine lv_aload_n hx hb dX2_merge_6 rfl (lv_at hl 0 rfl) ?_
  refine lv_aload_n hx hb dX2_merge_7 rfl (lv_at hl 1 rfl) ?_
  refine lv_iload_n hx hb dX2_merge_8 rfl (lv_at hl 3 rfl) ?_
  refine g_xr (vx_runV (As := [.int j]) (rest := [.ref (ad (11 + 4 * r))]) ⟨hx, hb, hml, hown, hts⟩ (c_replicaAt l G base hl0 hDk (sa := fun r => ad (11 + 4 * r)) hR.1.2.2.2.2.2.1 (i := j)) (cwV 1 hts gX2_merge_X2_replicaAt rfl rfl rfl (by decide +kernel) ⟨(Nat.le_of_ble_eq_true rfl), (Nat.le_of_ble_eq_true rfl)⟩) (g_px2 hK hX hG hLx hKx) rfl rfl hl.1 rfl (lv_room (Nat.le_of_ble_eq_true rfl)) dX2_merge_9 ⟨(Nat.le_of_ble_eq_true rfl), (Nat.le_of_ble_eq_true rfl)⟩) hG (fun E ce q9 H locs hpx hG hce hcv hcl => ?_) (fun a1 d H locs hp hG => ?_)
  · exact g_out hnt hlocks hce hcv hcl ⟨hpx.1, fun z => hpx.2 z.2⟩ hG (by omega) (by omega)
  obtain ⟨hd6, rfl, ea⟩ := hp
  replace ea : a1 = ad (11 + 4 * d) := ea
  subst ea
  have hSd : isSt L K n fR (ad (11 + 4 * d)) (ad (12 + 4 * d)) (ad (13 + 4 * d)) (ad (14 + 4 * d)) := repX_st hR (show d < 7 + a_nd α by omega)
  have hS0 := hSd
  obtain ⟨hLad, hKad, h0ad, h1ad, h2ad, hLbd, hKbd, hnbd, hLcd, hKcd, hncd, hLed, hKed, hned⟩ := hS0
  refine g_calli (va_runV (As := [.ref (ad (11 + 4 * d))]) (rest := []) ⟨hx, hb, hml, hown, hts⟩ (c_take l G base hSr hSd (repX_ne hR (by omega) (by omega) (by omega))) (cwV 1 hts gX2_merge_X1_take rfl rfl rfl (by decide +kernel) ⟨(Nat.le_of_ble_eq_true rfl), (Nat.le_of_ble_eq_true rfl)⟩) (g_pv1 hK hG hLar hKar) rfl rfl hl.1 rfl (lv_room (Nat.le_of_ble_eq_true rfl)) dX2_merge_12 ⟨(Nat.le_of_ble_eq_true rfl), (Nat.le_of_ble_eq_true rfl)⟩) hG (fun y1 u H locs hp hG => ?_)
  obtain ⟨cg, r1, j1, f1⟩ := u
  obtain ⟨hcg, htd, htt, hf1, hfl⟩ := hp
  replace hG : gw G base s.heap (L, K, n, r1, j1, rQ, f1, fR) H locs := hG
  obtain ⟨hR1, hk1, hq1⟩ := repX_join hR (k := r) (o := d) (by omega) (by omega) htd htt hf1
  replace hcg : y1 = bi cg := hcg
  subst hcg
  refine g_calli (va_runS (As := [.int (bi cg)]) (rest := []) ⟨hx, hb, hml, hown, hts⟩ (c_bit l G base (b := cg)) (cwS 1 hts gX2_merge_X2_bit rfl rfl rfl (by decide +kernel) ⟨(Nat.le_of_ble_eq_true rfl), (Nat.le_of_ble_eq_true rfl)⟩) (g_ps hK hG) rfl rfl hl.1 rfl (lv_room (Nat.le_of_ble_eq_true rfl)) dX2_merge_15 ⟨(Nat.le_of_ble_eq_true rfl), (Nat.le_of_ble_eq_true rfl)⟩) hG (fun y2 _ H locs hp hG => ?_)
  subst hp
  refine vx_ret ?_
  refine W.widen (k := 12) (n := 100) (by omega) (by omega) ?_
  exact W.iret (v := (bi (cg))) hx hb hr (fun t9 h9 hW9 => ⟨⟨(bi (cg)), ((r1, j1, f1), r, d, cg), rfl, ⟨⟨hr6, rfl⟩, ⟨hd6, rfl⟩, rfl, hfl.trans hq1, StpX.of rfl ⟨hR1, hk1⟩⟩, hG.at h9⟩, hG.2.2.1.F h9⟩) hG.2.2.1.2.2 dX2_merge_18
set_option maxHeartbeats 4000000 in
set_option maxRecDepth 100000 in
/-- deltas() -/
theorem c_deltas (l : Launch) (G : gG) (base : Nat) {L : List Nat} {K n : Nat → Nat} {rI : Nat → Nat → Int32} {rJ : Nat → Nat → Int64} {rQ : Nat → Nat → Option Nat} {fI : Nat → Nat → Int32} {fR : Nat → Nat → Option Nat} {ad : Nat → Nat} {α : aT} (hR : RepX (L, K, n, rI, rJ, rQ, fI, fR) ad α) : Met l yX2_deltas wsX2_deltas ({ frames := 0, cells := 0, slots := 0, locals := 0 }) (va_Pc [.ref (ad 0)] (g_Pr G base (L, K, n, rI, rJ, rQ, fI, fR))) (g_Qi G base (fun _ : Unit => (L, K, n, rI, rJ, rQ, fI, fR)) (fun x _ => x = nI (a_nd α))) 0 0 (g_A base) := by
  have hDk : isDk L K n fR (ad 0) (ad 1) (ad 2) (ad 3) (ad 35) (ad 4) := hR.1.2.2.1
  have hD : isDt L K n fR (ad 3) (ad 5) (ad 6) (ad 7) (ad 8) (ad 9) (ad 10) := hR.1.2.2.2.1
  have hcnt : fI (ad 3) 6 = nI (a_cnt α) := hR.2.2.2.1.1
  have hmc : fI (ad 0) 5 = nI (a_nd α) := hR.2.1
  have hnd : a_nd α ≤ 250 := hR.1.1
  have hc250 : a_cnt α ≤ 250 := Nat.le_trans hR.2.2.1 hnd
  have hDk0 := hDk
  obtain ⟨hLx, hKx, h0x, h1x, h2x, h3x, h4x, hLra, hKra, hnra, hLma, hKma, hnma, hLod, hKod, hnod⟩ := hDk0
  have hD0 := hD
  obtain ⟨hLd, hKd, h0d, h1d, h2d, h3d, h4d, h5d, hLdr, hKdr, hndr, hLdn, hKdn, hndn, hLdk, hKdk, hndk, hLdp, hKdp, hndp, hLdv, hKdv, hndv, hLdg, hKdg, hndg⟩ := hD0
  refine Met.ofW (cc := cX2_deltas) (maxL := 1) (ret := (some .int)) (by decide) rfl ?_
  intro p e s m args below meth c s₁ B hml hv
  obtain ⟨rfl, hPr⟩ := hv
  have hx := B.exec
  have hb := B.bytes
  have hr := B.returns
  have hts := atoms_spec (ws := wsX2_deltas) B.pre
  have hown : s.vm.findClass RX2 = some m.cls := findClass_of_methodNamed B.named
  have hlocks := B.notSynchronized
  have hin : meth.name = "deltas" := (name_of_methodNamed B.named B.method).1
  have hK := hPr.2.2
  have hG := hPr.gw
  have hl := lv_entry ([.ref (ad 0)]) (n := 1) (Nat.le_of_ble_eq_true rfl)
  rw [lg_entry_eq]
  generalize (lg_sl ([.ref (ad 0)]) ++ List.replicate (1 - (lg_sl ([.ref (ad 0)])).length) Slot.unset).toArray = ls at hl ⊢
  have hl : lv_has ls 1 [(0, .ref (ad 0))] := hl
  refine g_start hPr (fun H locs hG => ?_)
  refine lv_aload_n hx hb dX2_deltas_0 rfl (lv_at hl 0 rfl) ?_
  refine r_Desk_madeCount hx hb hts (by decide +kernel) hown hK hG hLx hKx (hts (.fieldLink RX2 34 "DotStores" "madeCount" "I") (by decide +kernel)) dX2_deltas_1 ?_
  refine lv_topi (fun z1 ez1 => ?_)
  obtain rfl : z1 = nI (a_nd α) := ez1.trans (hmc)
  refine W.widen (k := 0) (n := 0) (by omega) (by omega) ?_
  exact W.iret (v := (nI (a_nd α))) hx hb hr (fun t9 h9 hW9 => ⟨⟨(nI (a_nd α)), (), rfl, rfl, hG.at h9⟩, hG.2.2.1.F h9⟩) hG.2.2.1.2.2 dX2_deltas_4
/-- isLike says whether two states are the same -/
theorem repX_like {L : List Nat} {K n : Nat → Nat} {rI : Nat → Nat → Int32} {rJ : Nat → Nat → Int64} {rQ : Nat → Nat → Option Nat} {fI : Nat → Nat → Int32} {fR : Nat → Nat → Option Nat} {ad : Nat → Nat} {α : aT} {k o : Nat} (h : RepX (L, K, n, rI, rJ, rQ, fI, fR) ad α) (hk : k < 7 + a_nd α) (ho : o < 7 + a_nd α) :
    ((fI (ad (11 + 4 * k)) 3 = fI (ad (11 + 4 * o)) 3 ∧ fI (ad (11 + 4 * k)) 4 = fI (ad (11 + 4 * o)) 4) ∧ (∀ j, j < 4 → rJ (ad (12 + 4 * k)) j = rJ (ad (12 + 4 * o)) j ∧ rJ (ad (13 + 4 * k)) j = rJ (ad (13 + 4 * o)) j) ∧ ∀ j, j < 32 → rI (ad (14 + 4 * k)) j = rI (ad (14 + 4 * o)) j) ↔ sEq α α k o := by
  obtain ⟨k1, k2, k3, k4⟩ := h.2.2.2.2 k hk
  obtain ⟨o1, o2, o3, o4⟩ := h.2.2.2.2 o ho
  replace k1 : ∀ i, i < 256 → rb (rJ (ad (12 + 4 * k))) i = a_S α k i ∧ rb (rJ (ad (13 + 4 * k))) i = a_L α k i := k1
  replace o1 : ∀ i, i < 256 → rb (rJ (ad (12 + 4 * o))) i = a_S α o i ∧ rb (rJ (ad (13 + 4 * o))) i = a_L α o i := o1
  replace k2 : fI (ad (11 + 4 * k)) 3 = a_P α k := k2
  replace k3 : fI (ad (11 + 4 * k)) 4 = a_T α k := k3
  replace o2 : fI (ad (11 + 4 * o)) 3 = a_P α o := o2
  replace o3 : fI (ad (11 + 4 * o)) 4 = a_T α o := o3
  replace k4 : ∀ i, i < 32 → rI (ad (14 + 4 * k)) i = a_M α k i := k4
  replace o4 : ∀ i, i < 32 → rI (ad (14 + 4 * o)) i = a_M α o i := o4
  unfold sEq
  rw [k2, k3, o2, o3]
  constructor
  · rintro ⟨q1, q2, q3⟩
    refine ⟨fun i hi => ⟨?_, ?_⟩, q1, fun e he => ?_⟩
    · rw [← (k1 i hi).1, ← (o1 i hi).1]; exact rb_eq.mp (fun j hj => (q2 j hj).1) i hi
    · rw [← (k1 i hi).2, ← (o1 i hi).2]; exact rb_eq.mp (fun j hj => (q2 j hj).2) i hi
    · rw [← k4 e he, ← o4 e he]; exact q3 e he
  · rintro ⟨q1, q2, q3⟩
    refine ⟨q2, fun j hj => ⟨?_, ?_⟩, fun e he => ?_⟩
    · exact rb_eq.mpr (fun i hi => by rw [(k1 i hi).1, (o1 i hi).1]; exact (q1 i hi).1) j hj
    · exact rb_eq.mpr (fun i hi => by rw [(k1 i hi).2, (o1 i hi).2]; exact (q1 i hi).2) j hj
    · rw [k4 e he, o4 e he]; exact q3 e he
set_option maxHeartbeats 4000000 in
set_option maxRecDepth 100000 in
/-- same -/
theorem c_same (l : Launch) (G : gG) (base : Nat) {L : List Nat} {K n : Nat → Nat} {rI : Nat → Nat → Int32} {rJ : Nat → Nat → Int64} {rQ : Nat → Nat → Option Nat} {fI : Nat → Nat → Int32} {fR : Nat → Nat → Option Nat} (hl0 : l.stackTraces = false) {ad : Nat → Nat} {α : aT} (hR : RepX (L, K, n, rI, rJ, rQ, fI, fR) ad α) {i j : Int32} : vx_Met l yX2_same wsX2_same ({ frames := 7, cells := 12, slots := 100, locals := 111 }) (va_Pc [.ref (ad 0), .int i, .int j] (g_Px G base (L, K, n, rI, rJ, rQ, fI, fR))) (g_Qi G base (fun u : Nat × Nat × Bool => (L, K, n, rI, rJ, rQ, fI, fR)) (fun x u => (u.1 < 6 ∧ i = nI u.1) ∧ (u.2.1 < 6 ∧ j = nI u.2.1) ∧ x = bi u.2.2 ∧ (u.2.2 = true ↔ sEq α α u.1 u.2.1))) (g_XC G base (L, K, n, rI, rJ, rQ, fI, fR) (fun E => E = "java/lang/IndexOutOfBoundsException" ∧ ¬ (okI i 6 ∧ okI j 6))) 12 100 (g_A base) := by
  have hDk : isDk L K n fR (ad 0) (ad 1) (ad 2) (ad 3) (ad 35) (ad 4) := hR.1.2.2.1
  have hD : isDt L K n fR (ad 3) (ad 5) (ad 6) (ad 7) (ad 8) (ad 9) (ad 10) := hR.1.2.2.2.1
  have hcnt : fI (ad 3) 6 = nI (a_cnt α) := hR.2.2.2.1.1
  have hmc : fI (ad 0) 5 = nI (a_nd α) := hR.2.1
  have hnd : a_nd α ≤ 250 := hR.1.1
  have hc250 : a_cnt α ≤ 250 := Nat.le_trans hR.2.2.1 hnd
  have hDk0 := hDk
  obtain ⟨hLx, hKx, h0x, h1x, h2x, h3x, h4x, hLra, hKra, hnra, hLma, hKma, hnma, hLod, hKod, hnod⟩ := hDk0
  have hD0 := hD
  obtain ⟨hLd, hKd, h0d, h1d, h2d, h3d, h4d, h5d, hLdr, hKdr, hndr, hLdn, hKdn, hndn, hLdk, hKdk, hndk, hLdp, hKdp, hndp, hLdv, hKdv, hndv, hLdg, hKdg, hndg⟩ := hD0
  have hgr : ∀ r, r < 6 → rI (ad 10) r = nI (a_g α r) ∧ a_g α r ≤ 100 := hR.2.2.2.1.2.1
  refine vx_ofW (cc := cX2_same) (maxL := 4) (ret := (some .int)) (by decide) rfl ?_
  intro p e s m args below meth c s₁ B hml hnt hv
  obtain ⟨rfl, hPr, hX⟩ := hv
  have hx := B.exec
  have hb := B.bytes
  have hr := B.returns
  have hts := atoms_spec (ws := wsX2_same) B.pre
  have hown : s.vm.findClass RX2 = some m.cls := findClass_of_methodNamed B.named
  have hlocks := B.notSynchronized
  have hin : meth.name = "same" := (name_of_methodNamed B.named B.method).1
  have hK := hPr.2.2
  have hG := hPr.gw
  have hl := lv_entry ([.ref (ad 0), .int i, .int j]) (n := 4) (Nat.le_of_ble_eq_true rfl)
  rw [lg_entry_eq]
  generalize (lg_sl ([.ref (ad 0), .int i, .int j]) ++ List.replicate (4 - (lg_sl ([.ref (ad 0), .int i, .int j])).length) Slot.unset).toArray = ls at hl ⊢
  have hl : lv_has ls 4 [(0, .ref (ad 0)), (1, .int i), (2, .int j)] := hl
  refine g_start hPr (fun H locs hG => ?_)
  refine lv_aload_n hx hb dX2_same_0 rfl (lv_at hl 0 rfl) ?_
  refine lv_iload_n hx hb dX2_same_1 rfl (lv_at hl 1 rfl) ?_
  refine g_xr (vx_runV (As := [.int i]) (rest := []) ⟨hx, hb, hml, hown, hts⟩ (c_replicaAt l G base hl0 hDk (sa := fun r => ad (11 + 4 * r)) hR.1.2.2.2.2.2.1 (i := i)) (cwV 1 hts gX2_same_X2_replicaAt rfl rfl rfl (by decide +kernel) ⟨(Nat.le_of_ble_eq_true rfl), (Nat.le_of_ble_eq_true rfl)⟩) (g_px2 hK hX hG hLx hKx) rfl rfl hl.1 rfl (lv_room (Nat.le_of_ble_eq_true rfl)) dX2_same_2 ⟨(Nat.le_of_ble_eq_true rfl), (Nat.le_of_ble_eq_true rfl)⟩) hG (fun E ce q9 H locs hpx hG hce hcv hcl => ?_) (fun a0 r H locs hp hG => ?_)
  · exact g_out hnt hlocks hce hcv hcl ⟨hpx.1, fun z => hpx.2 z.1⟩ hG (by omega) (by omega)
  obtain ⟨hr6, rfl, ea⟩ := hp
  replace ea : a0 = ad (11 + 4 * r) := ea
  subst ea
  have hSr : isSt L K n fR (ad (11 + 4 * r)) (ad (12 + 4 * r)) (ad (13 + 4 * r)) (ad (14 + 4 * r)) := repX_st hR (show r < 7 + a_nd α by omega)
  have hS0 := hSr
  obtain ⟨hLar, hKar, h0ar, h1ar, h2ar, hLbr, hKbr, hnbr, hLcr, hKcr, hncr, hLer, hKer, hner⟩ := hS0
  refine lv_astore_n (lv' := [(3, .ref (ad (11 + 4 * r))), (0, .ref (ad 0)), (1, .int (nI r)), (2, .int j)]) hx hb dX2_same_5 rfl hl (by decide) rfl (fun ls hl => ?_)
  refine lv_aload_n hx hb dX2_same_6 rfl (lv_at hl 0 rfl) ?_
  refine lv_aload_n hx hb dX2_same_7 rfl (lv_at hl 1 rfl) ?_
  refine lv_iload_n hx hb dX2_same_8 rfl (lv_at hl 3 rfl) ?_
  refine g_xr (vx_runV (As := [.int j]) (rest := [.ref (ad (11 + 4 * r))]) ⟨hx, hb, hml, hown, hts⟩ (c_replicaAt l G base hl0 hDk (sa := fun r => ad (11 + 4 * r)) hR.1.2.2.2.2.2.1 (i := j)) (cwV 1 hts gX2_same_X2_replicaAt rfl rfl rfl (by decide +kernel) ⟨(Nat.le_of_ble_eq_true rfl), (Nat.le_of_ble_eq_true rfl)⟩) (g_px2 hK hX hG hLx hKx) rfl rfl hl.1 rfl (lv_room (Nat.le_of_ble_eq_true rfl)) dX2_same_9 ⟨(Nat.le_of_ble_eq_true rfl), (Nat.le_of_ble_eq_true rfl)⟩) hG (fun E ce q9 H locs hpx hG hce hcv hcl => ?_) (fun a1 d H locs hp hG => ?_)
  · exact g_out hnt hlocks hce hcv hcl ⟨hpx.1, fun z => hpx.2 z.2⟩ hG (by omega) (by omega)
  obtain ⟨hd6, rfl, ea⟩ := hp
  replace ea : a1 = ad (11 + 4 * d) := ea
  subst ea
  have hSd : isSt L K n fR (ad (11 + 4 * d)) (ad (12 + 4 * d)) (ad (13 + 4 * d)) (ad (14 + 4 * d)) := repX_st hR (show d < 7 + a_nd α by omega)
  have hS0 := hSd
  obtain ⟨hLad, hKad, h0ad, h1ad, h2ad, hLbd, hKbd, hnbd, hLcd, hKcd, hncd, hLed, hKed, hned⟩ := hS0
  refine g_calli (va_runV (As := [.ref (ad (11 + 4 * d))]) (rest := []) ⟨hx, hb, hml, hown, hts⟩ (c_isLike l G base hSr hSd) (cwV 1 hts gX2_same_X1_isLike rfl rfl rfl (by decide +kernel) ⟨(Nat.le_of_ble_eq_true rfl), (Nat.le_of_ble_eq_true rfl)⟩) (g_pv1 hK hG hLar hKar) rfl rfl hl.1 rfl (lv_room (Nat.le_of_ble_eq_true rfl)) dX2_same_12 ⟨(Nat.le_of_ble_eq_true rfl), (Nat.le_of_ble_eq_true rfl)⟩) hG (fun y1 cg H locs hp hG => ?_)
  obtain ⟨hcg, hfl⟩ := hp
  replace hcg : y1 = bi cg := hcg
  subst hcg
  have hse := hfl.trans (repX_like hR (show r < 7 + a_nd α by omega) (show d < 7 + a_nd α by omega))
  refine g_calli (va_runS (As := [.int (bi cg)]) (rest := []) ⟨hx, hb, hml, hown, hts⟩ (c_bit l G base (b := cg)) (cwS 1 hts gX2_same_X2_bit rfl rfl rfl (by decide +kernel) ⟨(Nat.le_of_ble_eq_true rfl), (Nat.le_of_ble_eq_true rfl)⟩) (g_ps hK hG) rfl rfl hl.1 rfl (lv_room (Nat.le_of_ble_eq_true rfl)) dX2_same_15 ⟨(Nat.le_of_ble_eq_true rfl), (Nat.le_of_ble_eq_true rfl)⟩) hG (fun y2 _ H locs hp hG => ?_)
  subst hp
  refine vx_ret ?_
  refine W.widen (k := 12) (n := 100) (by omega) (by omega) ?_
  exact W.iret (v := (bi (cg))) hx hb hr (fun t9 h9 hW9 => ⟨⟨(bi (cg)), (r, d, cg), rfl, ⟨⟨hr6, rfl⟩, ⟨hd6, rfl⟩, rfl, hse⟩, hG.at h9⟩, hG.2.2.1.F h9⟩) hG.2.2.1.2.2 dX2_same_18
set_option maxHeartbeats 4000000 in
set_option maxRecDepth 100000 in
/-- whole(i) -/
theorem c_whole (l : Launch) (G : gG) (base : Nat) {L : List Nat} {K n : Nat → Nat} {rI : Nat → Nat → Int32} {rJ : Nat → Nat → Int64} {rQ : Nat → Nat → Option Nat} {fI : Nat → Nat → Int32} {fR : Nat → Nat → Option Nat} (hl0 : l.stackTraces = false) {ad : Nat → Nat} {α : aT} (hR : RepX (L, K, n, rI, rJ, rQ, fI, fR) ad α) {i : Int32} : vx_Met l yX2_whole wsX2_whole ({ frames := 7, cells := 12, slots := 100, locals := 111 }) (va_Pc [.ref (ad 0), .int i] (g_Px G base (L, K, n, rI, rJ, rQ, fI, fR))) (g_Qi G base (fun u : (gS × (Nat → Nat)) × Nat => u.1.1) (fun x u => (u.2 < 6 ∧ i = nI u.2) ∧ x = nI (a_nd α) ∧ StpX (L, K, n, rI, rJ, rQ, fI, fR) ad α u.1.1 u.1.2 (aWhole α u.2))) (g_XC G base (L, K, n, rI, rJ, rQ, fI, fR) (fun E => (E = "java/lang/IndexOutOfBoundsException" ∧ ¬ okI i 6) ∨ (E = "java/lang/IllegalStateException" ∧ okI i 6 ∧ ¬ a_nd α < 250))) 12 100 (g_A base) := by
  have hDk : isDk L K n fR (ad 0) (ad 1) (ad 2) (ad 3) (ad 35) (ad 4) := hR.1.2.2.1
  have hD : isDt L K n fR (ad 3) (ad 5) (ad 6) (ad 7) (ad 8) (ad 9) (ad 10) := hR.1.2.2.2.1
  have hcnt : fI (ad 3) 6 = nI (a_cnt α) := hR.2.2.2.1.1
  have hmc : fI (ad 0) 5 = nI (a_nd α) := hR.2.1
  have hnd : a_nd α ≤ 250 := hR.1.1
  have hc250 : a_cnt α ≤ 250 := Nat.le_trans hR.2.2.1 hnd
  have hDk0 := hDk
  obtain ⟨hLx, hKx, h0x, h1x, h2x, h3x, h4x, hLra, hKra, hnra, hLma, hKma, hnma, hLod, hKod, hnod⟩ := hDk0
  have hD0 := hD
  obtain ⟨hLd, hKd, h0d, h1d, h2d, h3d, h4d, h5d, hLdr, hKdr, hndr, hLdn, hKdn, hndn, hLdk, hKdk, hndk, hLdp, hKdp, hndp, hLdv, hKdv, hndv, hLdg, hKdg, hndg⟩ := hD0
  have hgr : ∀ r, r < 6 → rI (ad 10) r = nI (a_g α r) ∧ a_g α r ≤ 100 := hR.2.2.2.1.2.1
  refine vx_ofW (cc := cX2_whole) (maxL := 3) (ret := (some .int)) (by decide) rfl ?_
  intro p e s m args below meth c s₁ B hml hnt hv
  obtain ⟨rfl, hPr, hX⟩ := hv
  have hx := B.exec
  have hb := B.bytes
  have hr := B.returns
  have hts := atoms_spec (ws := wsX2_whole) B.pre
  have hown : s.vm.findClass RX2 = some m.cls := findClass_of_methodNamed B.named
  have hlocks := B.notSynchronized
  have hin : meth.name = "whole" := (name_of_methodNamed B.named B.method).1
  have hK := hPr.2.2
  have hG := hPr.gw
  have hl := lv_entry ([.ref (ad 0), .int i]) (n := 3) (Nat.le_of_ble_eq_true rfl)
  rw [lg_entry_eq]
  generalize (lg_sl ([.ref (ad 0), .int i]) ++ List.replicate (3 - (lg_sl ([.ref (ad 0), .int i])).length) Slot.unset).toArray = ls at hl ⊢
  have hl : lv_has ls 3 [(0, .ref (ad 0)), (1, .int i)] := hl
  refine g_start hPr (fun H locs hG => ?_)
  refine lv_aload_n hx hb dX2_whole_0 rfl (lv_at hl 0 rfl) ?_
  refine lv_iload_n hx hb dX2_whole_1 rfl (lv_at hl 1 rfl) ?_
  refine g_xr (vx_runV (As := [.int i]) (rest := []) ⟨hx, hb, hml, hown, hts⟩ (c_replicaAt l G base hl0 hDk (sa := fun r => ad (11 + 4 * r)) hR.1.2.2.2.2.2.1 (i := i)) (cwV 1 hts gX2_whole_X2_replicaAt rfl rfl rfl (by decide +kernel) ⟨(Nat.le_of_ble_eq_true rfl), (Nat.le_of_ble_eq_true rfl)⟩) (g_px2 hK hX hG hLx hKx) rfl rfl hl.1 rfl (lv_room (Nat.le_of_ble_eq_true rfl)) dX2_whole_2 ⟨(Nat.le_of_ble_eq_true rfl), (Nat.le_of_ble_eq_true rfl)⟩) hG (fun E ce q9 H locs hpx hG hce hcv hcl => ?_) (fun a0 r H locs hp hG => ?_)
  · exact g_out hnt hlocks hce hcv hcl (Or.inl hpx) hG (by omega) (by omega)
  obtain ⟨hr6, rfl, ea⟩ := hp
  replace ea : a0 = ad (11 + 4 * r) := ea
  subst ea
  have hSr : isSt L K n fR (ad (11 + 4 * r)) (ad (12 + 4 * r)) (ad (13 + 4 * r)) (ad (14 + 4 * r)) := repX_st hR (show r < 7 + a_nd α by omega)
  have hS0 := hSr
  obtain ⟨hLar, hKar, h0ar, h1ar, h2ar, hLbr, hKbr, hnbr, hLcr, hKcr, hncr, hLer, hKer, hner⟩ := hS0
  refine lv_astore_n (lv' := [(2, .ref (ad (11 + 4 * r))), (0, .ref (ad 0)), (1, .int (nI r))]) hx hb dX2_whole_5 rfl hl (by decide) rfl (fun ls hl => ?_)
  refine lv_aload_n hx hb dX2_whole_6 rfl (lv_at hl 1 rfl) ?_
  refine g_xr (vx_runV (As := []) (rest := []) ⟨hx, hb, hml, hown, hts⟩ (c_openDelta l G base hl0 hDk hnd hmc) (cwV 0 hts gX2_whole_X2_openDelta rfl rfl rfl (by decide +kernel) ⟨(Nat.le_of_ble_eq_true rfl), (Nat.le_of_ble_eq_true rfl)⟩) (g_px2 hK hX hG hLx hKx) rfl rfl hl.1 rfl (lv_room (Nat.le_of_ble_eq_true rfl)) dX2_whole_7 ⟨(Nat.le_of_ble_eq_true rfl), (Nat.le_of_ble_eq_true rfl)⟩) hG (fun E ce q9 H locs hpx hG hce hcv hcl => ?_) (fun a1 u H locs hp hG => ?_)
  · exact g_out hnt hlocks hce hcv hcl (Or.inr ⟨hpx.1, ⟨r, hr6, rfl⟩, hpx.2⟩) hG (by omega) (by omega)
  obtain ⟨⟨L1, K1, n1, rI1, rJ1, rQ1, fI1, fR1⟩, bs, bl, bt⟩ := u
  obtain ⟨hlt, hN⟩ := hp
  have hP1 := StpX.new hR hlt hN
  obtain ⟨ad1, ead⟩ : ∃ z, z = adN ad (11 + 4 * (7 + a_nd α)) a1 bs bl bt := ⟨_, rfl⟩
  rw [← ead] at hP1
  have hlo : ∀ {i : Nat}, i < 11 + 4 * (7 + a_nd α) → ad i = ad1 i := fun hi => by rw [ead]; exact (adN_lt hi).symm
  have ea : a1 = ad1 (11 + 4 * (7 + a_nd α)) := by rw [ead]; exact adN_0.symm
  clear ead hN
  subst ea
  replace hG : gw G base s.heap (L1, K1, n1, rI1, rJ1, rQ1, fI1, fR1) H locs := hG
  rw [hlo (i := 0) (by omega), hlo (i := 11 + 4 * r) (by omega)] at hl
  have hR1 := hP1.1
  have hlt1 : a_nd α < 250 := hlt
  have hDk1 : isDk L1 K1 n1 fR1 (ad1 0) (ad1 1) (ad1 2) (ad1 3) (ad1 35) (ad1 4) := hR1.1.2.2.1
  have hD1 : isDt L1 K1 n1 fR1 (ad1 3) (ad1 5) (ad1 6) (ad1 7) (ad1 8) (ad1 9) (ad1 10) := hR1.1.2.2.2.1
  have hDk0 := hDk1
  obtain ⟨hLx1, hKx1, h0x1, h1x1, h2x1, h3x1, h4x1, hLra1, hKra1, hnra1, hLma1, hKma1, hnma1, hLod1, hKod1, hnod1⟩ := hDk0
  have hD0 := hD1
  obtain ⟨hLd1, hKd1, h0d1, h1d1, h2d1, h3d1, h4d1, h5d1, hLdr1, hKdr1, hndr1, hLdn1, hKdn1, hndn1, hLdk1, hKdk1, hndk1, hLdp1, hKdp1, hndp1, hLdv1, hKdv1, hndv1, hLdg1, hKdg1, hndg1⟩ := hD0
  have hcnt1 : fI1 (ad1 3) 6 = nI (a_cnt α) := hR1.2.2.2.1.1
  have hmc1 : fI1 (ad1 0) 5 = nI (a_nd α + 1) := hR1.2.1
  have hDl : 7 + a_nd α < 7 + (a_nd α + 1) := by omega
  have hSr : isSt L1 K1 n1 fR1 (ad1 (11 + 4 * r)) (ad1 (12 + 4 * r)) (ad1 (13 + 4 * r)) (ad1 (14 + 4 * r)) := repX_st hR1 (show r < 7 + (a_nd α + 1) by omega)
  have hS0 := hSr
  obtain ⟨hLar, hKar, h0ar, h1ar, h2ar, hLbr, hKbr, hnbr, hLcr, hKcr, hncr, hLer, hKer, hner⟩ := hS0
  have hSD : isSt L1 K1 n1 fR1 (ad1 (11 + 4 * (7 + a_nd α))) (ad1 (12 + 4 * (7 + a_nd α))) (ad1 (13 + 4 * (7 + a_nd α))) (ad1 (14 + 4 * (7 + a_nd α))) := repX_st hR1 hDl
  have hS0 := hSD
  obtain ⟨hLaD, hKaD, h0aD, h1aD, h2aD, hLbD, hKbD, hnbD, hLcD, hKcD, hncD, hLeD, hKeD, hneD⟩ := hS0
  refine lv_aload_n hx hb dX2_whole_10 rfl (lv_at hl 0 rfl) ?_
  refine g_callv (va_runV (As := [.ref (ad1 (11 + 4 * r))]) (rest := []) ⟨hx, hb, hml, hown, hts⟩ (c_become l G base hSD hSr) (cwV 1 hts gX2_whole_X1_become rfl rfl rfl (by decide +kernel) ⟨(Nat.le_of_ble_eq_true rfl), (Nat.le_of_ble_eq_true rfl)⟩) (g_pv1 hK hG hLaD hKaD) rfl rfl hl.1 rfl (lv_room (Nat.le_of_ble_eq_true rfl)) dX2_whole_11 ⟨(Nat.le_of_ble_eq_true rfl), (Nat.le_of_ble_eq_true rfl)⟩) hG (fun _ H locs hp hG => ?_)
  have hC := repX_copy hP1.1 (k := (7 + a_nd α)) (o := r) hDl (show r < 7 + (a_nd α + 1) by omega) (by omega)
  obtain ⟨i2, ei2⟩ : ∃ z, z = g_cp rI1 (ad1 (14 + 4 * r)) (ad1 (14 + 4 * (7 + a_nd α))) 32 := ⟨_, rfl⟩
  obtain ⟨j2, ej2⟩ : ∃ z, z = g_cp (g_cp rJ1 (ad1 (12 + 4 * r)) (ad1 (12 + 4 * (7 + a_nd α))) 4) (ad1 (13 + 4 * r)) (ad1 (13 + 4 * (7 + a_nd α))) 4 := ⟨_, rfl⟩
  obtain ⟨f2, ef2⟩ : ∃ z, z = g_up (g_up fI1 (ad1 (11 + 4 * (7 + a_nd α))) 3 (fI1 (ad1 (11 + 4 * r)) 3)) (ad1 (11 + 4 * (7 + a_nd α))) 4 (g_up fI1 (ad1 (11 + 4 * (7 + a_nd α))) 3 (fI1 (ad1 (11 + 4 * r)) 3) (ad1 (11 + 4 * r)) 4) := ⟨_, rfl⟩
  rw [← ei2, ← ej2, ← ef2] at hC
  replace hG : gw G base s.heap (L1, K1, n1, i2, j2, rQ1, f2, fR1) H locs := by rw [ei2, ej2, ef2]; exact hG
  have hP2 : StpX (L, K, n, rI, rJ, rQ, fI, fR) ad α (L1, K1, n1, i2, j2, rQ1, f2, fR1) ad1 (aWhole α r) := hP1.tr (StpX.of rfl hC)
  refine lv_aload_n hx hb dX2_whole_14 rfl (lv_at hl 1 rfl) ?_
  refine r_Desk_madeCount hx hb hts (by decide +kernel) hown hK hG hLx1 hKx1 (hts (.fieldLink RX2 34 "DotStores" "madeCount" "I") (by decide +kernel)) dX2_whole_15 ?_
  refine lv_topi (fun z1 ez1 => ?_)
  obtain rfl : z1 = nI (a_nd α + 1) := ez1.trans (hP2.1.2.1)
  refine lv_iconst (v := 1) hx hb dX2_whole_18 (by decide) ?_
  refine lv_isub hx hb dX2_whole_19 ?_
  refine vx_ret ?_
  refine W.widen (k := 12) (n := 100) (by omega) (by omega) ?_
  exact W.iret (v := ((nI (a_nd α + 1)) - 1)) hx hb hr (fun t9 h9 hW9 => ⟨⟨((nI (a_nd α + 1)) - 1), (((L1, K1, n1, i2, j2, rQ1, f2, fR1), ad1), r), rfl, ⟨⟨hr6, rfl⟩, nI_pred (a_nd α), hP2⟩, hG.at h9⟩, hG.2.2.1.F h9⟩) hG.2.2.1.2.2 dX2_whole_20
set_option maxHeartbeats 4000000 in
set_option maxRecDepth 100000 in
/-- group(i, j) -/
theorem c_group (l : Launch) (G : gG) (base : Nat) {L : List Nat} {K n : Nat → Nat} {rI : Nat → Nat → Int32} {rJ : Nat → Nat → Int64} {rQ : Nat → Nat → Option Nat} {fI : Nat → Nat → Int32} {fR : Nat → Nat → Option Nat} (hl0 : l.stackTraces = false) {ad : Nat → Nat} {α : aT} (hR : RepX (L, K, n, rI, rJ, rQ, fI, fR) ad α) {i j : Int32} : vx_Met l yX2_group wsX2_group ({ frames := 7, cells := 12, slots := 100, locals := 111 }) (va_Pc [.ref (ad 0), .int i, .int j] (g_Px G base (L, K, n, rI, rJ, rQ, fI, fR))) (g_Qi G base (fun u : (gS × (Nat → Nat)) × Nat × Nat => u.1.1) (fun x u => (u.2.1 < a_nd α ∧ i = nI u.2.1) ∧ (u.2.2 < a_nd α ∧ j = nI u.2.2) ∧ x = nI (a_nd α) ∧ StpX (L, K, n, rI, rJ, rQ, fI, fR) ad α u.1.1 u.1.2 (aGroup α u.2.1 u.2.2))) (g_XC G base (L, K, n, rI, rJ, rQ, fI, fR) (fun E => (E = "java/lang/IndexOutOfBoundsException" ∧ ¬ (okI i (a_nd α) ∧ okI j (a_nd α))) ∨ (E = "java/lang/IllegalStateException" ∧ (okI i (a_nd α) ∧ okI j (a_nd α)) ∧ ¬ a_nd α < 250))) 12 100 (g_A base) := by
  have hDk : isDk L K n fR (ad 0) (ad 1) (ad 2) (ad 3) (ad 35) (ad 4) := hR.1.2.2.1
  have hD : isDt L K n fR (ad 3) (ad 5) (ad 6) (ad 7) (ad 8) (ad 9) (ad 10) := hR.1.2.2.2.1
  have hcnt : fI (ad 3) 6 = nI (a_cnt α) := hR.2.2.2.1.1
  have hmc : fI (ad 0) 5 = nI (a_nd α) := hR.2.1
  have hnd : a_nd α ≤ 250 := hR.1.1
  have hc250 : a_cnt α ≤ 250 := Nat.le_trans hR.2.2.1 hnd
  have hDk0 := hDk
  obtain ⟨hLx, hKx, h0x, h1x, h2x, h3x, h4x, hLra, hKra, hnra, hLma, hKma, hnma, hLod, hKod, hnod⟩ := hDk0
  have hD0 := hD
  obtain ⟨hLd, hKd, h0d, h1d, h2d, h3d, h4d, h5d, hLdr, hKdr, hndr, hLdn, hKdn, hndn, hLdk, hKdk, hndk, hLdp, hKdp, hndp, hLdv, hKdv, hndv, hLdg, hKdg, hndg⟩ := hD0
  have hgr : ∀ r, r < 6 → rI (ad 10) r = nI (a_g α r) ∧ a_g α r ≤ 100 := hR.2.2.2.1.2.1
  refine vx_ofW (cc := cX2_group) (maxL := 6) (ret := (some .int)) (by decide) rfl ?_
  intro p e s m args below meth c s₁ B hml hnt hv
  obtain ⟨rfl, hPr, hX⟩ := hv
  have hx := B.exec
  have hb := B.bytes
  have hr := B.returns
  have hts := atoms_spec (ws := wsX2_group) B.pre
  have hown : s.vm.findClass RX2 = some m.cls := findClass_of_methodNamed B.named
  have hlocks := B.notSynchronized
  have hin : meth.name = "group" := (name_of_methodNamed B.named B.method).1
  have hK := hPr.2.2
  have hG := hPr.gw
  have hl := lv_entry ([.ref (ad 0), .int i, .int j]) (n := 6) (Nat.le_of_ble_eq_true rfl)
  rw [lg_entry_eq]
  generalize (lg_sl ([.ref (ad 0), .int i, .int j]) ++ List.replicate (6 - (lg_sl ([.ref (ad 0), .int i, .int j])).length) Slot.unset).toArray = ls at hl ⊢
  have hl : lv_has ls 6 [(0, .ref (ad 0)), (1, .int i), (2, .int j)] := hl
  refine g_start hPr (fun H locs hG => ?_)
  refine lv_aload_n hx hb dX2_group_0 rfl (lv_at hl 0 rfl) ?_
  refine lv_iload_n hx hb dX2_group_1 rfl (lv_at hl 1 rfl) ?_
  refine g_xr (vx_runV (As := [.int i]) (rest := []) ⟨hx, hb, hml, hown, hts⟩ (c_deltaAt l G base hl0 hDk (nd := a_nd α) (sa := fun r => ad (11 + 4 * (7 + r))) hnd hR.1.2.2.2.2.2.2.1 hR.1.2.2.2.2.2.2.2 (i := i)) (cwV 1 hts gX2_group_X2_deltaAt rfl rfl rfl (by decide +kernel) ⟨(Nat.le_of_ble_eq_true rfl), (Nat.le_of_ble_eq_true rfl)⟩) (g_px2 hK hX hG hLx hKx) rfl rfl hl.1 rfl (lv_room (Nat.le_of_ble_eq_true rfl)) dX2_group_2 ⟨(Nat.le_of_ble_eq_true rfl), (Nat.le_of_ble_eq_true rfl)⟩) hG (fun E ce q9 H locs hpx hG hce hcv hcl => ?_) (fun a0 d H locs hp hG => ?_)
  · exact g_out hnt hlocks hce hcv hcl (Or.inl ⟨hpx.1, fun z => hpx.2 z.1⟩) hG (by omega) (by omega)
  obtain ⟨hd, rfl, ea⟩ := hp
  replace ea : a0 = ad (11 + 4 * (7 + d)) := ea
  subst ea
  have hSd : isSt L K n fR (ad (11 + 4 * (7 + d))) (ad (12 + 4 * (7 + d))) (ad (13 + 4 * (7 + d))) (ad (14 + 4 * (7 + d))) := repX_st hR (show 7 + d < 7 + a_nd α by omega)
  have hS0 := hSd
  obtain ⟨hLad, hKad, h0ad, h1ad, h2ad, hLbd, hKbd, hnbd, hLcd, hKcd, hncd, hLed, hKed, hned⟩ := hS0
  refine lv_astore_n (lv' := [(3, .ref (ad (11 + 4 * (7 + d)))), (0, .ref (ad 0)), (1, .int (nI d)), (2, .int j)]) hx hb dX2_group_5 rfl hl (by decide) rfl (fun ls hl => ?_)
  refine lv_aload_n hx hb dX2_group_6 rfl (lv_at hl 1 rfl) ?_
  refine lv_iload_n hx hb dX2_group_7 rfl (lv_at hl 3 rfl) ?_
  refine g_xr (vx_runV (As := [.int j]) (rest := []) ⟨hx, hb, hml, hown, hts⟩ (c_deltaAt l G base hl0 hDk (nd := a_nd α) (sa := fun r => ad (11 + 4 * (7 + r))) hnd hR.1.2.2.2.2.2.2.1 hR.1.2.2.2.2.2.2.2 (i := j)) (cwV 1 hts gX2_group_X2_deltaAt rfl rfl rfl (by decide +kernel) ⟨(Nat.le_of_ble_eq_true rfl), (Nat.le_of_ble_eq_true rfl)⟩) (g_px2 hK hX hG hLx hKx) rfl rfl hl.1 rfl (lv_room (Nat.le_of_ble_eq_true rfl)) dX2_group_8 ⟨(Nat.le_of_ble_eq_true rfl), (Nat.le_of_ble_eq_true rfl)⟩) hG (fun E ce q9 H locs hpx hG hce hcv hcl => ?_) (fun a2 q H locs hp hG => ?_)
  · exact g_out hnt hlocks hce hcv hcl (Or.inl ⟨hpx.1, fun z => hpx.2 z.2⟩) hG (by omega) (by omega)
  obtain ⟨hq, rfl, ea⟩ := hp
  replace ea : a2 = ad (11 + 4 * (7 + q)) := ea
  subst ea
  have hSq : isSt L K n fR (ad (11 + 4 * (7 + q))) (ad (12 + 4 * (7 + q))) (ad (13 + 4 * (7 + q))) (ad (14 + 4 * (7 + q))) := repX_st hR (show 7 + q < 7 + a_nd α by omega)
  have hS0 := hSq
  obtain ⟨hLaq, hKaq, h0aq, h1aq, h2aq, hLbq, hKbq, hnbq, hLcq, hKcq, hncq, hLeq, hKeq, hneq⟩ := hS0
  refine lv_astore (lv' := [(4, .ref (ad (11 + 4 * (7 + q)))), (3, .ref (ad (11 + 4 * (7 + d)))), (0, .ref (ad 0)), (1, .int (nI d)), (2, .int (nI q))]) hx hb dX2_group_11 hl (by decide) rfl (fun ls hl => ?_)
  refine lv_aload_n hx hb dX2_group_13 rfl (lv_at hl 2 rfl) ?_
  refine g_xr (vx_runV (As := []) (rest := []) ⟨hx, hb, hml, hown, hts⟩ (c_openDelta l G base hl0 hDk hnd hmc) (cwV 0 hts gX2_group_X2_openDelta rfl rfl rfl (by decide +kernel) ⟨(Nat.le_of_ble_eq_true rfl), (Nat.le_of_ble_eq_true rfl)⟩) (g_px2 hK hX hG hLx hKx) rfl rfl hl.1 rfl (lv_room (Nat.le_of_ble_eq_true rfl)) dX2_group_14 ⟨(Nat.le_of_ble_eq_true rfl), (Nat.le_of_ble_eq_true rfl)⟩) hG (fun E ce q9 H locs hpx hG hce hcv hcl => ?_) (fun a1 u H locs hp hG => ?_)
  · exact g_out hnt hlocks hce hcv hcl (Or.inr ⟨hpx.1, ⟨⟨d, hd, rfl⟩, ⟨q, hq, rfl⟩⟩, hpx.2⟩) hG (by omega) (by omega)
  obtain ⟨⟨L1, K1, n1, rI1, rJ1, rQ1, fI1, fR1⟩, bs, bl, bt⟩ := u
  obtain ⟨hlt, hN⟩ := hp
  have hP1 := StpX.new hR hlt hN
  obtain ⟨ad1, ead⟩ : ∃ z, z = adN ad (11 + 4 * (7 + a_nd α)) a1 bs bl bt := ⟨_, rfl⟩
  rw [← ead] at hP1
  have hlo : ∀ {i : Nat}, i < 11 + 4 * (7 + a_nd α) → ad i = ad1 i := fun hi => by rw [ead]; exact (adN_lt hi).symm
  have ea : a1 = ad1 (11 + 4 * (7 + a_nd α)) := by rw [ead]; exact adN_0.symm
  clear ead hN
  subst ea
  replace hG : gw G base s.heap (L1, K1, n1, rI1, rJ1, rQ1, fI1, fR1) H locs := hG
  rw [hlo (i := 0) (by omega), hlo (i := 11 + 4 * (7 + d)) (by omega), hlo (i := 11 + 4 * (7 + q)) (by omega)] at hl
  have hR1 := hP1.1
  have hlt1 : a_nd α < 250 := hlt
  have hDk1 : isDk L1 K1 n1 fR1 (ad1 0) (ad1 1) (ad1 2) (ad1 3) (ad1 35) (ad1 4) := hR1.1.2.2.1
  have hD1 : isDt L1 K1 n1 fR1 (ad1 3) (ad1 5) (ad1 6) (ad1 7) (ad1 8) (ad1 9) (ad1 10) := hR1.1.2.2.2.1
  have hDk0 := hDk1
  obtain ⟨hLx1, hKx1, h0x1, h1x1, h2x1, h3x1, h4x1, hLra1, hKra1, hnra1, hLma1, hKma1, hnma1, hLod1, hKod1, hnod1⟩ := hDk0
  have hD0 := hD1
  obtain ⟨hLd1, hKd1, h0d1, h1d1, h2d1, h3d1, h4d1, h5d1, hLdr1, hKdr1, hndr1, hLdn1, hKdn1, hndn1, hLdk1, hKdk1, hndk1, hLdp1, hKdp1, hndp1, hLdv1, hKdv1, hndv1, hLdg1, hKdg1, hndg1⟩ := hD0
  have hcnt1 : fI1 (ad1 3) 6 = nI (a_cnt α) := hR1.2.2.2.1.1
  have hmc1 : fI1 (ad1 0) 5 = nI (a_nd α + 1) := hR1.2.1
  have hDl : 7 + a_nd α < 7 + (a_nd α + 1) := by omega
  have hSd : isSt L1 K1 n1 fR1 (ad1 (11 + 4 * (7 + d))) (ad1 (12 + 4 * (7 + d))) (ad1 (13 + 4 * (7 + d))) (ad1 (14 + 4 * (7 + d))) := repX_st hR1 (show 7 + d < 7 + (a_nd α + 1) by omega)
  have hS0 := hSd
  obtain ⟨hLad, hKad, h0ad, h1ad, h2ad, hLbd, hKbd, hnbd, hLcd, hKcd, hncd, hLed, hKed, hned⟩ := hS0
  have hSq : isSt L1 K1 n1 fR1 (ad1 (11 + 4 * (7 + q))) (ad1 (12 + 4 * (7 + q))) (ad1 (13 + 4 * (7 + q))) (ad1 (14 + 4 * (7 + q))) := repX_st hR1 (show 7 + q < 7 + (a_nd α + 1) by omega)
  have hS0 := hSq
  obtain ⟨hLaq, hKaq, h0aq, h1aq, h2aq, hLbq, hKbq, hnbq, hLcq, hKcq, hncq, hLeq, hKeq, hneq⟩ := hS0
  have hSD : isSt L1 K1 n1 fR1 (ad1 (11 + 4 * (7 + a_nd α))) (ad1 (12 + 4 * (7 + a_nd α))) (ad1 (13 + 4 * (7 + a_nd α))) (ad1 (14 + 4 * (7 + a_nd α))) := repX_st hR1 hDl
  have hS0 := hSD
  obtain ⟨hLaD, hKaD, h0aD, h1aD, h2aD, hLbD, hKbD, hnbD, hLcD, hKcD, hncD, hLeD, hKeD, hneD⟩ := hS0
  refine lv_astore (lv' := [(5, .ref (ad1 (11 + 4 * (7 + a_nd α)))), (4, .ref (ad1 (11 + 4 * (7 + q)))), (3, .ref (ad1 (11 + 4 * (7 + d)))), (0, .ref (ad1 0)), (1, .int (nI d)), (2, .int (nI q))]) hx hb dX2_group_17 hl (by decide) rfl (fun ls hl => ?_)
  refine lv_aload hx hb dX2_group_19 (lv_at hl 0 rfl) ?_
  refine lv_aload_n hx hb dX2_group_21 rfl (lv_at hl 2 rfl) ?_
  refine g_callv (va_runV (As := [.ref (ad1 (11 + 4 * (7 + d)))]) (rest := []) ⟨hx, hb, hml, hown, hts⟩ (c_become l G base hSD hSd) (cwV 1 hts gX2_group_X1_become rfl rfl rfl (by decide +kernel) ⟨(Nat.le_of_ble_eq_true rfl), (Nat.le_of_ble_eq_true rfl)⟩) (g_pv1 hK hG hLaD hKaD) rfl rfl hl.1 rfl (lv_room (Nat.le_of_ble_eq_true rfl)) dX2_group_22 ⟨(Nat.le_of_ble_eq_true rfl), (Nat.le_of_ble_eq_true rfl)⟩) hG (fun _ H locs hp hG => ?_)
  have hC := repX_copy hP1.1 (k := (7 + a_nd α)) (o := (7 + d)) hDl (show 7 + d < 7 + (a_nd α + 1) by omega) (by omega)
  obtain ⟨i2, ei2⟩ : ∃ z, z = g_cp rI1 (ad1 (14 + 4 * (7 + d))) (ad1 (14 + 4 * (7 + a_nd α))) 32 := ⟨_, rfl⟩
  obtain ⟨j2, ej2⟩ : ∃ z, z = g_cp (g_cp rJ1 (ad1 (12 + 4 * (7 + d))) (ad1 (12 + 4 * (7 + a_nd α))) 4) (ad1 (13 + 4 * (7 + d))) (ad1 (13 + 4 * (7 + a_nd α))) 4 := ⟨_, rfl⟩
  obtain ⟨f2, ef2⟩ : ∃ z, z = g_up (g_up fI1 (ad1 (11 + 4 * (7 + a_nd α))) 3 (fI1 (ad1 (11 + 4 * (7 + d))) 3)) (ad1 (11 + 4 * (7 + a_nd α))) 4 (g_up fI1 (ad1 (11 + 4 * (7 + a_nd α))) 3 (fI1 (ad1 (11 + 4 * (7 + d))) 3) (ad1 (11 + 4 * (7 + d))) 4) := ⟨_, rfl⟩
  rw [← ei2, ← ej2, ← ef2] at hC
  replace hG : gw G base s.heap (L1, K1, n1, i2, j2, rQ1, f2, fR1) H locs := by rw [ei2, ej2, ef2]; exact hG
  have hP2 : StpX (L, K, n, rI, rJ, rQ, fI, fR) ad α (L1, K1, n1, i2, j2, rQ1, f2, fR1) ad1 (aCopy (aNew α) (7 + a_nd α) (7 + d)) := hP1.tr (StpX.of rfl hC)
  refine lv_aload hx hb dX2_group_25 (lv_at hl 0 rfl) ?_
  refine lv_aload hx hb dX2_group_27 (lv_at hl 1 rfl) ?_
  refine g_calli (va_runV (As := [.ref (ad1 (11 + 4 * (7 + q)))]) (rest := []) ⟨hx, hb, hml, hown, hts⟩ (c_take l G base hSD hSq (repX_ne hR1 (by have := hDl; show _ < 11 + 4 * (7 + (a_nd α + 1)); omega) (by show _ < 11 + 4 * (7 + (a_nd α + 1)); omega) (by omega))) (cwV 1 hts gX2_group_X1_take rfl rfl rfl (by decide +kernel) ⟨(Nat.le_of_ble_eq_true rfl), (Nat.le_of_ble_eq_true rfl)⟩) (g_pv1 hK hG hLaD hKaD) rfl rfl hl.1 rfl (lv_room (Nat.le_of_ble_eq_true rfl)) dX2_group_29 ⟨(Nat.le_of_ble_eq_true rfl), (Nat.le_of_ble_eq_true rfl)⟩) hG (fun y3 u H locs hp hG => ?_)
  obtain ⟨cg, r3, j3, f3⟩ := u
  obtain ⟨-, htd, htt, hf3, -⟩ := hp
  replace hG : gw G base s.heap (L1, K1, n1, r3, j3, rQ1, f3, fR1) H locs := hG
  obtain ⟨hR3, hk3, -⟩ := repX_join hP2.1 (k := 7 + a_nd α) (o := 7 + q) hDl (show 7 + q < 7 + (a_nd α + 1) by omega) htd htt hf3
  have hP3 : StpX (L, K, n, rI, rJ, rQ, fI, fR) ad α (L1, K1, n1, r3, j3, rQ1, f3, fR1) ad1 (aGroup α d q) := hP2.tr (StpX.of rfl ⟨hR3, hk3⟩)
  refine lv_pop hx hb dX2_group_32 rfl ?_
  refine lv_aload_n hx hb dX2_group_33 rfl (lv_at hl 3 rfl) ?_
  refine r_Desk_madeCount hx hb hts (by decide +kernel) hown hK hG hLx1 hKx1 (hts (.fieldLink RX2 34 "DotStores" "madeCount" "I") (by decide +kernel)) dX2_group_34 ?_
  refine lv_topi (fun z1 ez1 => ?_)
  obtain rfl : z1 = nI (a_nd α + 1) := ez1.trans (hP3.1.2.1)
  refine lv_iconst (v := 1) hx hb dX2_group_37 (by decide) ?_
  refine lv_isub hx hb dX2_group_38 ?_
  refine vx_ret ?_
  refine W.widen (k := 12) (n := 100) (by omega) (by omega) ?_
  exact W.iret (v := ((nI (a_nd α + 1)) - 1)) hx hb hr (fun t9 h9 hW9 => ⟨⟨((nI (a_nd α + 1)) - 1), (((L1, K1, n1, r3, j3, rQ1, f3, fR1), ad1), d, q), rfl, ⟨⟨hd, rfl⟩, ⟨hq, rfl⟩, nI_pred (a_nd α), hP3⟩, hG.at h9⟩, hG.2.2.1.F h9⟩) hG.2.2.1.2.2 dX2_group_39
