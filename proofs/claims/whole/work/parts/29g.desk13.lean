/-- the state that size asks for -/
def szK (nd : Nat) (i : Int32) (k : Nat) : Prop := (i < -1 ∧ ∃ d, d < nd ∧ (-2) - i = nI d ∧ k = 7 + d) ∨ (¬ i < -1 ∧ k < 6 ∧ i = nI k)
set_option maxHeartbeats 4000000 in
set_option maxRecDepth 100000 in
/-- size -/
theorem c_size (l : Launch) (G : gG) (base : Nat) {L : List Nat} {K n : Nat → Nat} {rI : Nat → Nat → Int32} {rJ : Nat → Nat → Int64} {rQ : Nat → Nat → Option Nat} {fI : Nat → Nat → Int32} {fR : Nat → Nat → Option Nat} (hl0 : l.stackTraces = false) {ad : Nat → Nat} {α : aT} (hR : RepX (L, K, n, rI, rJ, rQ, fI, fR) ad α) {i wh : Int32} : vx_Met l yX2_size wsX2_size ({ frames := 7, cells := 12, slots := 100, locals := 111 }) (va_Pc [.ref (ad 0), .int i, .int wh] (g_Px G base (L, K, n, rI, rJ, rQ, fI, fR))) (g_Qi G base (fun u : Nat => (L, K, n, rI, rJ, rQ, fI, fR)) (fun x u => szK (a_nd α) i u ∧ okI wh 2 ∧ x = nI (cntN (if wh = 0 then a_L α u else a_S α u) 256))) (g_XC G base (L, K, n, rI, rJ, rQ, fI, fR) (fun E => E = "java/lang/IndexOutOfBoundsException" ∧ (¬ (∃ k, szK (a_nd α) i k) ∨ ¬ okI wh 2))) 12 100 (g_A base) := by
  have hDk : isDk L K n fR (ad 0) (ad 1) (ad 2) (ad 3) (ad 35) (ad 4) := hR.1.2.2.1
  have hD : isDt L K n fR (ad 3) (ad 5) (ad 6) (ad 7) (ad 8) (ad 9) (ad 10) := hR.1.2.2.2.1
  have hcnt : fI (ad 3) 6 = nI (a_cnt α) := hR.2.2.2.1.1
  have hmc : fI (ad 0) 5 = nI (a_nd α) := hR.2.1
  have hnd : a_nd α ≤ 250 := hR.1.1
  have hc250 : a_cnt α ≤ 250 := Nat.le_trans hR.2.2.1 hnd
  have hDk0 := hDk
  obtain ⟨hLx, hKx, h0x, h1x, h2x, h3x, h4x, hLra, hKra, hnra, hLma, hKma, hnma, hLod, hKod, hnod⟩ := hDk0
  have hD0 := hD
  obtain ⟨hLd, hKd, h0d, h1d, h2d, h3d, h4d, h5d, hLdr, hKdr, hndr, hLdn, hKdn, hndn, hLdk, hKdk, hndk, hLdp, hKdp, hndp, hLdv, hKdv, hndv, hLdg, hKdg, hndg⟩ := hD0
  have hgr : ∀ r, r < 6 → rI (ad 10) r = nI (a_g α r) ∧ a_g α r ≤ 100 := hR.2.2.2.1.2.1
  refine vx_ofW (cc := cX2_size) (maxL := 4) (ret := (some .int)) (by decide) rfl ?_
  intro p e s m args below meth c s₁ B hml hnt hv
  obtain ⟨rfl, hPr, hX⟩ := hv
  have hx := B.exec
  have hb := B.bytes
  have hr := B.returns
  have hts := atoms_spec (ws := wsX2_size) B.pre
  have hown : s.vm.findClass RX2 = some m.cls := findClass_of_methodNamed B.named
  have hlocks := B.notSynchronized
  have hin : meth.name = "size" := (name_of_methodNamed B.named B.method).1
  have hK := hPr.2.2
  have hG := hPr.gw
  have hl := lv_entry ([.ref (ad 0), .int i, .int wh]) (n := 4) (Nat.le_of_ble_eq_true rfl)
  rw [lg_entry_eq]
  generalize (lg_sl ([.ref (ad 0), .int i, .int wh]) ++ List.replicate (4 - (lg_sl ([.ref (ad 0), .int i, .int wh])).length) Slot.unset).toArray = ls at hl ⊢
  have hl : lv_has ls 4 [(0, .ref (ad 0)), (1, .int i), (2, .int wh)] := hl
  refine g_start hPr (fun H locs hG => ?_)
  refine lv_iload_n hx hb dX2_size_0 rfl (lv_at hl 1 rfl) ?_
  refine lv_iconst (v := (-1)) hx hb dX2_size_1 (by decide) ?_
  refine lv_icmp_ge (tgt := 16) hx hb dX2_size_2 (by decide) (fun c0 => ?_) (fun c0 => ?_)
  · replace c0 : ¬ i < -1 := Int32.not_lt.mpr c0
    refine lv_aload_n hx hb dX2_size_16 rfl (lv_at hl 0 rfl) ?_
    refine lv_iload_n hx hb dX2_size_17 rfl (lv_at hl 1 rfl) ?_
    refine g_xr (vx_runV (As := [.int i]) (rest := []) ⟨hx, hb, hml, hown, hts⟩ (c_replicaAt l G base hl0 hDk (sa := fun r => ad (11 + 4 * r)) hR.1.2.2.2.2.2.1 (i := i)) (cwV 1 hts gX2_size_X2_replicaAt rfl rfl rfl (by decide +kernel) ⟨(Nat.le_of_ble_eq_true rfl), (Nat.le_of_ble_eq_true rfl)⟩) (g_px2 hK hX hG hLx hKx) rfl rfl hl.1 rfl (lv_room (Nat.le_of_ble_eq_true rfl)) dX2_size_18 ⟨(Nat.le_of_ble_eq_true rfl), (Nat.le_of_ble_eq_true rfl)⟩) hG (fun E ce q9 H locs hpx hG hce hcv hcl => ?_) (fun a0 r H locs hp hG => ?_)
    · exact g_out hnt hlocks hce hcv hcl ⟨hpx.1, Or.inl (fun ⟨k, z⟩ => z.elim (fun q => c0 q.1) (fun q => hpx.2 ⟨k, q.2⟩))⟩ hG (by omega) (by omega)
    obtain ⟨hr6, hri, ea⟩ := hp
    replace ea : a0 = ad (11 + 4 * r) := ea
    subst ea
    have hSr : isSt L K n fR (ad (11 + 4 * r)) (ad (12 + 4 * r)) (ad (13 + 4 * r)) (ad (14 + 4 * r)) := repX_st hR (show r < 7 + a_nd α by omega)
    have hS0 := hSr
    obtain ⟨hLar, hKar, h0ar, h1ar, h2ar, hLbr, hKbr, hnbr, hLcr, hKcr, hncr, hLer, hKer, hner⟩ := hS0
    have hsz : szK (a_nd α) i r := Or.inr ⟨c0, hr6, hri⟩
    refine lv_astore_n (lv' := [(3, .ref (ad (11 + 4 * r))), (0, .ref (ad 0)), (1, .int i), (2, .int wh)]) hx hb dX2_size_21 rfl hl (by decide) rfl (fun ls hl => ?_)
    refine lv_iload_n hx hb dX2_size_22 rfl (lv_at hl 3 rfl) ?_
    refine lv_iconst (v := 2) hx hb dX2_size_23 (by decide) ?_
    refine g_xv (vx_runS (As := [.int wh, .int 2]) (rest := []) ⟨hx, hb, hml, hown, hts⟩ (c_requireIndex l G base hl0 (i := wh) (b := 2)) (cwS 2 hts gX2_size_X2_requireIndex rfl rfl rfl (by decide +kernel) ⟨(Nat.le_of_ble_eq_true rfl), (Nat.le_of_ble_eq_true rfl)⟩) (g_psx hK hX hG) rfl rfl hl.1 rfl (lv_room (Nat.le_of_ble_eq_true rfl)) dX2_size_24 ⟨(Nat.le_of_ble_eq_true rfl), (Nat.le_of_ble_eq_true rfl)⟩) hG (fun E ce q9 H locs hpx hG hce hcv hcl => ?_) (fun _ H locs hp hG => ?_)
    · exact g_out hnt hlocks hce hcv hcl ⟨hpx.1, Or.inr (okI_no (by decide) hpx.2)⟩ hG (by omega) (by omega)
    have hw2 : okI wh 2 := okI_of (by decide) hp.1 hp.2
    refine lv_iload_n hx hb dX2_size_27 rfl (lv_at hl 3 rfl) ?_
    refine lv_if_ne (tgt := 41) hx hb dX2_size_28 (by decide) (fun c1 => ?_) (fun c1 => ?_)
    · refine lv_aload_n hx hb dX2_size_41 rfl (lv_at hl 0 rfl) ?_
      refine r_State_seen hx hb hts (by decide +kernel) hown hK hG hLar hKar h0ar (hts (.fieldLink RX2 155 "DotStores$State" "seen" "[J") (by decide +kernel)) dX2_size_42 ?_
      refine g_calli (va_runS (As := [.ref (ad (12 + 4 * r))]) (rest := []) ⟨hx, hb, hml, hown, hts⟩ (c_bitsIn l G base hLbr hKbr hnbr) (cwS 1 hts gX2_size_X2_bitsIn rfl rfl rfl (by decide +kernel) ⟨(Nat.le_of_ble_eq_true rfl), (Nat.le_of_ble_eq_true rfl)⟩) (g_ps hK hG) rfl rfl hl.1 rfl (lv_room (Nat.le_of_ble_eq_true rfl)) dX2_size_45 ⟨(Nat.le_of_ble_eq_true rfl), (Nat.le_of_ble_eq_true rfl)⟩) hG (fun y3 _ H locs hp hG => ?_)
      have hp : y3 = nI (cntN (a_S α r) 256) := by
        rw [hp]
        exact congrArg nI (cntN_congr (fun j hj => ((hR.2.2.2.2 r (by omega)).1 j hj).1))
      subst hp
      refine vx_ret ?_
      refine W.widen (k := 12) (n := 100) (by omega) (by omega) ?_
      exact W.iret (v := (nI (cntN (a_S α r) 256))) hx hb hr (fun t9 h9 hW9 => ⟨⟨(nI (cntN (a_S α r) 256)), r, rfl, ⟨hsz, hw2, by rw [if_neg c1]⟩, hG.at h9⟩, hG.2.2.1.F h9⟩) hG.2.2.1.2.2 dX2_size_48
    · have c1 : wh = 0 := by first | exact c1 | exact Classical.not_not.mp c1
      refine lv_aload_n hx hb dX2_size_31 rfl (lv_at hl 0 rfl) ?_
      refine r_State_live hx hb hts (by decide +kernel) hown hK hG hLar hKar h1ar (hts (.fieldLink RX2 148 "DotStores$State" "live" "[J") (by decide +kernel)) dX2_size_32 ?_
      refine g_calli (va_runS (As := [.ref (ad (13 + 4 * r))]) (rest := []) ⟨hx, hb, hml, hown, hts⟩ (c_bitsIn l G base hLcr hKcr hncr) (cwS 1 hts gX2_size_X2_bitsIn rfl rfl rfl (by decide +kernel) ⟨(Nat.le_of_ble_eq_true rfl), (Nat.le_of_ble_eq_true rfl)⟩) (g_ps hK hG) rfl rfl hl.1 rfl (lv_room (Nat.le_of_ble_eq_true rfl)) dX2_size_35 ⟨(Nat.le_of_ble_eq_true rfl), (Nat.le_of_ble_eq_true rfl)⟩) hG (fun y3 _ H locs hp hG => ?_)
      have hp : y3 = nI (cntN (a_L α r) 256) := by
        rw [hp]
        exact congrArg nI (cntN_congr (fun j hj => ((hR.2.2.2.2 r (by omega)).1 j hj).2))
      subst hp
      refine lv_goto (tgt := 48) hx hb dX2_size_38 (by decide) ?_
      refine vx_ret ?_
      refine W.widen (k := 12) (n := 100) (by omega) (by omega) ?_
      exact W.iret (v := (nI (cntN (a_L α r) 256))) hx hb hr (fun t9 h9 hW9 => ⟨⟨(nI (cntN (a_L α r) 256)), r, rfl, ⟨hsz, hw2, by rw [if_pos c1]⟩, hG.at h9⟩, hG.2.2.1.F h9⟩) hG.2.2.1.2.2 dX2_size_48
  · replace c0 : i < -1 := Int32.not_le.mp c0
    refine lv_aload_n hx hb dX2_size_5 rfl (lv_at hl 0 rfl) ?_
    refine lv_bipush (v := (-2)) hx hb dX2_size_6 (by decide) ?_
    refine lv_iload_n hx hb dX2_size_8 rfl (lv_at hl 1 rfl) ?_
    refine lv_isub hx hb dX2_size_9 ?_
    refine g_xr (vx_runV (As := [.int ((-2) - i)]) (rest := []) ⟨hx, hb, hml, hown, hts⟩ (c_deltaAt l G base hl0 hDk (nd := a_nd α) (sa := fun r => ad (11 + 4 * (7 + r))) hnd hR.1.2.2.2.2.2.2.1 hR.1.2.2.2.2.2.2.2 (i := (-2) - i)) (cwV 1 hts gX2_size_X2_deltaAt rfl rfl rfl (by decide +kernel) ⟨(Nat.le_of_ble_eq_true rfl), (Nat.le_of_ble_eq_true rfl)⟩) (g_px2 hK hX hG hLx hKx) rfl rfl hl.1 rfl (lv_room (Nat.le_of_ble_eq_true rfl)) dX2_size_10 ⟨(Nat.le_of_ble_eq_true rfl), (Nat.le_of_ble_eq_true rfl)⟩) hG (fun E ce q9 H locs hpx hG hce hcv hcl => ?_) (fun a0 d H locs hp hG => ?_)
    · exact g_out hnt hlocks hce hcv hcl ⟨hpx.1, Or.inl (fun ⟨k, z⟩ => z.elim (fun q => hpx.2 (by obtain ⟨d, q1, q2, q3⟩ := q.2; exact ⟨d, q1, q2⟩)) (fun q => q.1 c0))⟩ hG (by omega) (by omega)
    obtain ⟨hd, hdi, ea⟩ := hp
    replace ea : a0 = ad (11 + 4 * (7 + d)) := ea
    subst ea
    have hSd : isSt L K n fR (ad (11 + 4 * (7 + d))) (ad (12 + 4 * (7 + d))) (ad (13 + 4 * (7 + d))) (ad (14 + 4 * (7 + d))) := repX_st hR (show 7 + d < 7 + a_nd α by omega)
    have hS0 := hSd
    obtain ⟨hLad, hKad, h0ad, h1ad, h2ad, hLbd, hKbd, hnbd, hLcd, hKcd, hncd, hLed, hKed, hned⟩ := hS0
    have hsz : szK (a_nd α) i (7 + d) := Or.inl ⟨c0, d, hd, hdi, rfl⟩
    refine lv_goto (tgt := 21) hx hb dX2_size_13 (by decide) ?_
    refine lv_astore_n (lv' := [(3, .ref (ad (11 + 4 * (7 + d)))), (0, .ref (ad 0)), (1, .int i), (2, .int wh)]) hx hb dX2_size_21 rfl hl (by decide) rfl (fun ls hl => ?_)
    refine lv_iload_n hx hb dX2_size_22 rfl (lv_at hl 3 rfl) ?_
    refine lv_iconst (v := 2) hx hb dX2_size_23 (by decide) ?_
    refine g_xv (vx_runS (As := [.int wh, .int 2]) (rest := []) ⟨hx, hb, hml, hown, hts⟩ (c_requireIndex l G base hl0 (i := wh) (b := 2)) (cwS 2 hts gX2_size_X2_requireIndex rfl rfl rfl (by decide +kernel) ⟨(Nat.le_of_ble_eq_true rfl), (Nat.le_of_ble_eq_true rfl)⟩) (g_psx hK hX hG) rfl rfl hl.1 rfl (lv_room (Nat.le_of_ble_eq_true rfl)) dX2_size_24 ⟨(Nat.le_of_ble_eq_true rfl), (Nat.le_of_ble_eq_true rfl)⟩) hG (fun E ce q9 H locs hpx hG hce hcv hcl => ?_) (fun _ H locs hp hG => ?_)
    · exact g_out hnt hlocks hce hcv hcl ⟨hpx.1, Or.inr (okI_no (by decide) hpx.2)⟩ hG (by omega) (by omega)
    have hw2 : okI wh 2 := okI_of (by decide) hp.1 hp.2
    refine lv_iload_n hx hb dX2_size_27 rfl (lv_at hl 3 rfl) ?_
    refine lv_if_ne (tgt := 41) hx hb dX2_size_28 (by decide) (fun c1 => ?_) (fun c1 => ?_)
    · refine lv_aload_n hx hb dX2_size_41 rfl (lv_at hl 0 rfl) ?_
      refine r_State_seen hx hb hts (by decide +kernel) hown hK hG hLad hKad h0ad (hts (.fieldLink RX2 155 "DotStores$State" "seen" "[J") (by decide +kernel)) dX2_size_42 ?_
      refine g_calli (va_runS (As := [.ref (ad (12 + 4 * (7 + d)))]) (rest := []) ⟨hx, hb, hml, hown, hts⟩ (c_bitsIn l G base hLbd hKbd hnbd) (cwS 1 hts gX2_size_X2_bitsIn rfl rfl rfl (by decide +kernel) ⟨(Nat.le_of_ble_eq_true rfl), (Nat.le_of_ble_eq_true rfl)⟩) (g_ps hK hG) rfl rfl hl.1 rfl (lv_room (Nat.le_of_ble_eq_true rfl)) dX2_size_45 ⟨(Nat.le_of_ble_eq_true rfl), (Nat.le_of_ble_eq_true rfl)⟩) hG (fun y3 _ H locs hp hG => ?_)
      have hp : y3 = nI (cntN (a_S α (7 + d)) 256) := by
        rw [hp]
        exact congrArg nI (cntN_congr (fun j hj => ((hR.2.2.2.2 (7 + d) (by omega)).1 j hj).1))
      subst hp
      refine vx_ret ?_
      refine W.widen (k := 12) (n := 100) (by omega) (by omega) ?_
      exact W.iret (v := (nI (cntN (a_S α (7 + d)) 256))) hx hb hr (fun t9 h9 hW9 => ⟨⟨(nI (cntN (a_S α (7 + d)) 256)), (7 + d), rfl, ⟨hsz, hw2, by rw [if_neg c1]⟩, hG.at h9⟩, hG.2.2.1.F h9⟩) hG.2.2.1.2.2 dX2_size_48
    · have c1 : wh = 0 := by first | exact c1 | exact Classical.not_not.mp c1
      refine lv_aload_n hx hb dX2_size_31 rfl (lv_at hl 0 rfl) ?_
      refine r_State_live hx hb hts (by decide +kernel) hown hK hG hLad hKad h1ad (hts (.fieldLink RX2 148 "DotStores$State" "live" "[J") (by decide +kernel)) dX2_size_32 ?_
      refine g_calli (va_runS (As := [.ref (ad (13 + 4 * (7 + d)))]) (rest := []) ⟨hx, hb, hml, hown, hts⟩ (c_bitsIn l G base hLcd hKcd hncd) (cwS 1 hts gX2_size_X2_bitsIn rfl rfl rfl (by decide +kernel) ⟨(Nat.le_of_ble_eq_true rfl), (Nat.le_of_ble_eq_true rfl)⟩) (g_ps hK hG) rfl rfl hl.1 rfl (lv_room (Nat.le_of_ble_eq_true rfl)) dX2_size_35 ⟨(Nat.le_of_ble_eq_true rfl), (Nat.le_of_ble_eq_true rfl)⟩) hG (fun y3 _ H locs hp hG => ?_)
      have hp : y3 = nI (cntN (a_L α (7 + d)) 256) := by
        rw [hp]
        exact congrArg nI (cntN_congr (fun j hj => ((hR.2.2.2.2 (7 + d) (by omega)).1 j hj).2))
      subst hp
      refine lv_goto (tgt := 48) hx hb dX2_size_38 (by decide) ?_
      refine vx_ret ?_
      refine W.widen (k := 12) (n := 100) (by omega) (by omega) ?_
      exact W.iret (v := (nI (cntN (a_L α (7 + d)) 256))) hx hb hr (fun t9 h9 hW9 => ⟨⟨(nI (cntN (a_L α (7 + d)) 256)), (7 + d), rfl, ⟨hsz, hw2, by rw [if_pos c1]⟩, hG.at h9⟩, hG.2.2.1.F h9⟩) hG.2.2.1.2.2 dX2_size_48
