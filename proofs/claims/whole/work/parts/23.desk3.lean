set_option maxHeartbeats 4000000 in
set_option maxRecDepth 100000 in
/-- takeBack(own, delta, key, part, replica) -/
theorem c_takeBack (l : Launch) (G : gG) (base : Nat) {L : List Nat} {K n : Nat → Nat} {rI : Nat → Nat → Int32} {rJ : Nat → Nat → Int64} {rQ : Nat → Nat → Option Nat} {fI : Nat → Nat → Int32} {fR : Nat → Nat → Option Nat} {ad : Nat → Nat} {α : aT} (hR : RepX (L, K, n, rI, rJ, rQ, fI, fR) ad α) {k D : Nat} {key q r : Int32} (hk : k < 7 + a_nd α) (hDn : D < 7 + a_nd α) (hkD : k ≠ D) : Met l yX2_takeBack wsX2_takeBack ({ frames := 1, cells := 0, slots := 0, locals := 24 }) (va_Pc [.ref (ad 0), .ref (ad (11 + 4 * k)), .ref (ad (11 + 4 * D)), .int key, .int q, .int r] (g_Pr G base (L, K, n, rI, rJ, rQ, fI, fR))) (g_Ql G base (fun u : Nat → Nat → Int64 => (L, K, n, rI, u, rQ, fI, fR)) (fun x u => x = sumN (livA α k key q r) (a_val α) (a_cnt α) ∧ (∀ b, b ≠ ad (12 + 4 * D) → u b = rJ b) ∧ ∀ i, i < 256 → rb (u (ad (12 + 4 * D))) i = tbk (a_S α D) (livA α k key q r) (a_cnt α) i)) 0 0 (g_A base) := by
  have hDk : isDk L K n fR (ad 0) (ad 1) (ad 2) (ad 3) (ad 35) (ad 4) := hR.1.2.2.1
  have hD : isDt L K n fR (ad 3) (ad 5) (ad 6) (ad 7) (ad 8) (ad 9) (ad 10) := hR.1.2.2.2.1
  have hcnt : fI (ad 3) 6 = nI (a_cnt α) := hR.2.2.2.1.1
  have hmc : fI (ad 0) 5 = nI (a_nd α) := hR.2.1
  have hnd : a_nd α ≤ 250 := hR.1.1
  have hc250 : a_cnt α ≤ 250 := Nat.le_trans hR.2.2.1 hnd
  have hDk0 := hDk
  obtain ⟨hLx, hKx, h0x, h1x, h2x, h3x, h4x, hLra, hKra, hnra, hLma, hKma, hnma, hLod, hKod, hnod⟩ := hDk0
  have hD0 := hD
  obtain ⟨hLd, hKd, h0d, h1d, h2d, h3d, h4d, h5d, hLdr, hKdr, hndr, hLdn, hKdn, hndn, hLdk, hKdk, hndk, hLdp, hKdp, hndp, hLdv, hKdv, hndv, hLdg, hKdg, hndg⟩ := hD0
  have hSk : isSt L K n fR (ad (11 + 4 * k)) (ad (12 + 4 * k)) (ad (13 + 4 * k)) (ad (14 + 4 * k)) := repX_st hR hk
  have hS0 := hSk
  obtain ⟨hLak, hKak, h0ak, h1ak, h2ak, hLbk, hKbk, hnbk, hLck, hKck, hnck, hLek, hKek, hnek⟩ := hS0
  have hSD : isSt L K n fR (ad (11 + 4 * D)) (ad (12 + 4 * D)) (ad (13 + 4 * D)) (ad (14 + 4 * D)) := repX_st hR hDn
  have hS0 := hSD
  obtain ⟨hLaD, hKaD, h0aD, h1aD, h2aD, hLbD, hKbD, hnbD, hLcD, hKcD, hncD, hLeD, hKeD, hneD⟩ := hS0
  refine Met.ofW (cc := cX2_takeBack) (maxL := 9) (ret := (some .long)) (by decide) rfl ?_
  intro p e s m args below meth c s₁ B hml hv
  obtain ⟨rfl, hPr⟩ := hv
  have hx := B.exec
  have hb := B.bytes
  have hr := B.returns
  have hts := atoms_spec (ws := wsX2_takeBack) B.pre
  have hown : s.vm.findClass RX2 = some m.cls := findClass_of_methodNamed B.named
  have hlocks := B.notSynchronized
  have hin : meth.name = "takeBack" := (name_of_methodNamed B.named B.method).1
  have hK := hPr.2.2
  have hG := hPr.gw
  have hl := lv_entry ([.ref (ad 0), .ref (ad (11 + 4 * k)), .ref (ad (11 + 4 * D)), .int key, .int q, .int r]) (n := 9) (Nat.le_of_ble_eq_true rfl)
  rw [lg_entry_eq]
  generalize (lg_sl ([.ref (ad 0), .ref (ad (11 + 4 * k)), .ref (ad (11 + 4 * D)), .int key, .int q, .int r]) ++ List.replicate (9 - (lg_sl ([.ref (ad 0), .ref (ad (11 + 4 * k)), .ref (ad (11 + 4 * D)), .int key, .int q, .int r])).length) Slot.unset).toArray = ls at hl ⊢
  have hl : lv_has ls 9 [(0, .ref (ad 0)), (1, .ref (ad (11 + 4 * k))), (2, .ref (ad (11 + 4 * D))), (3, .int key), (4, .int q), (5, .int r)] := hl
  refine g_start hPr (fun H locs hG => ?_)
  refine lv_lconst (v := 0) hx hb dX2_takeBack_0 (by decide) ?_
  refine lv_lstore (lv' := [(6, .long 0), (0, .ref (ad 0)), (1, .ref (ad (11 + 4 * k))), (2, .ref (ad (11 + 4 * D))), (3, .int key), (4, .int q), (5, .int r)]) hx hb dX2_takeBack_1 hl (by decide) rfl (fun ls hl => ?_)
  refine lv_iconst (v := 0) hx hb dX2_takeBack_3 (by decide) ?_
  refine lv_istore (lv' := [(8, .int 0), (6, .long 0), (0, .ref (ad 0)), (1, .ref (ad (11 + 4 * k))), (2, .ref (ad (11 + 4 * D))), (3, .int key), (4, .int q), (5, .int r)]) hx hb dX2_takeBack_4 hl (by decide) rfl (fun ls hl => ?_)
  obtain ⟨w, ew⟩ : ∃ z : Nat, z = 0 := ⟨_, rfl⟩
  obtain ⟨tot, etot⟩ : ∃ z : Int64, z = 0 := ⟨_, rfl⟩
  obtain ⟨r1, er1⟩ : ∃ z : Nat → Nat → Int64, z = rJ := ⟨_, rfl⟩
  replace hl : lv_has ls 9 [(0, .ref (ad 0)), (1, .ref (ad (11 + 4 * k))), (2, .ref (ad (11 + 4 * D))), (3, .int key), (4, .int q), (5, .int r), (6, .long tot), (8, .int (nI w))] := by subst ew etot er1; exact (lv_sub hl [2, 3, 4, 5, 6, 7, 1, 0] rfl)
  replace hG : gw G base s.heap (L, K, n, rI, r1, rQ, fI, fR) H locs := by subst ew etot er1; exact hG
  have inv : w ≤ a_cnt α ∧ (∀ b, b ≠ ad (12 + 4 * D) → r1 b = rJ b) ∧ (∀ i, i < 256 → rb (r1 (ad (12 + 4 * D))) i = tbk (a_S α D) (livA α k key q r) w i) ∧ tot = sumN (livA α k key q r) (a_val α) w := by
    subst ew etot er1
    exact ⟨by omega, fun _ _ => rfl, fun i hi => by rw [tbk_0]; exact ((hR.2.2.2.2 D hDn).1 i hi).1, rfl⟩
  have hf : a_cnt α < w + 251 := by omega
  clear ew etot er1
  generalize 251 = d at hf
  induction d generalizing w tot r1 H locs ls with
  | zero => exact absurd hf (by have := inv.1; omega)
  | succ d ih =>
    refine lv_iload hx hb dX2_takeBack_6 (lv_at hl 7 rfl) ?_
    refine lv_aload_n hx hb dX2_takeBack_8 rfl (lv_at hl 0 rfl) ?_
    refine r_Desk_dots hx hb hts (by decide +kernel) hown hK hG hLx hKx h2x (hts (.fieldLink RX2 21 "DotStores" "dots" "LDotStores$Dots;") (by decide +kernel)) dX2_takeBack_9 ?_
    refine r_Dots_count hx hb hts (by decide +kernel) hown hK hG hLd hKd (hts (.fieldLink RX2 108 "DotStores$Dots" "count" "I") (by decide +kernel)) dX2_takeBack_12 ?_
    refine lv_topi (fun z1 ez1 => ?_)
    obtain rfl : z1 = nI (a_cnt α) := ez1.trans (hcnt)
    refine lv_icmp_ge (tgt := 71) hx hb dX2_takeBack_15 (by decide) (fun c0 => ?_) (fun c0 => ?_)
    · have hwc : w = a_cnt α := Nat.le_antisymm inv.1 (nI_le_of (by omega) c0)
      refine lv_lload hx hb dX2_takeBack_71 (lv_at hl 6 rfl) ?_
      refine W.widen (k := 0) (n := 0) (by omega) (by omega) ?_
      exact W.lret (v := tot) hx hb hr (fun t ht hW => ⟨⟨tot, r1, rfl, (by subst hwc; exact ⟨inv.2.2.2, inv.2.1, inv.2.2.1⟩), hG.at ht⟩, hG.2.2.1.F ht⟩) hG.2.2.1.2.2 dX2_takeBack_73
    · have hwc : w < a_cnt α := nI_lt_of (by omega) c0
      refine lv_aload_n hx hb dX2_takeBack_18 rfl (lv_at hl 1 rfl) ?_
      refine lv_iload hx hb dX2_takeBack_19 (lv_at hl 7 rfl) ?_
      refine g_calli (va_runV (As := [.int (nI w)]) (rest := []) ⟨hx, hb, hml, hown, hts⟩ (c_isLive l G base hSk (i := w) (by omega)) (cwV 1 hts gX2_takeBack_X1_isLive rfl rfl rfl (by decide +kernel) ⟨(Nat.le_of_ble_eq_true rfl), (Nat.le_of_ble_eq_true rfl)⟩) (g_pv1 hK hG hLak hKak) rfl rfl hl.1 rfl (lv_room (Nat.le_of_ble_eq_true rfl)) dX2_takeBack_21 ⟨(Nat.le_of_ble_eq_true rfl), (Nat.le_of_ble_eq_true rfl)⟩) hG (fun y1 u H locs hp hG => ?_)
      have hp : y1 = bi (a_L α k w) := by
        rw [hp, inv.2.1 _ (repX_ne hR (by omega) (by omega) (by omega))]
        exact congrArg bi ((hR.2.2.2.2 k hk).1 w (by omega)).2
      subst hp
      refine lv_if_eq (tgt := 65) hx hb dX2_takeBack_24 (by decide) (fun c1 => ?_) (fun c1 => ?_)
      · have c1 := bi_0.mp c1
        have hlv : livA α k key q r w = false := livA_f1 c1
        refine lv_iinc (v := (nI (w + 1))) (lv' := [(8, .int (nI (w + 1))), (0, .ref (ad 0)), (1, .ref (ad (11 + 4 * k))), (2, .ref (ad (11 + 4 * D))), (3, .int key), (4, .int q), (5, .int r), (6, .long tot)]) hx hb dX2_takeBack_65 hl (k := 7) rfl (nI_1 w) (by decide) rfl (fun ls hl => ?_)
        refine lv_goto (tgt := 6) hx hb dX2_takeBack_68 (by decide) ?_
        exact ih (w := w + 1) (tot := tot) (hl := (lv_sub hl [1, 2, 3, 4, 5, 6, 7, 0] rfl)) (hG := hG) (inv := ⟨by omega, inv.2.1, fun i hi => by rw [tbk_f hlv]; exact inv.2.2.1 i hi, by rw [sumN_f hlv]; exact inv.2.2.2⟩) (hf := by omega)
      · have c1 := ts_nf (fun z => c1 (bi_0.mpr z))
        refine lv_aload_n hx hb dX2_takeBack_27 rfl (lv_at hl 0 rfl) ?_
        refine r_Desk_dots hx hb hts (by decide +kernel) hown hK hG hLx hKx h2x (hts (.fieldLink RX2 21 "DotStores" "dots" "LDotStores$Dots;") (by decide +kernel)) dX2_takeBack_28 ?_
        refine lv_iload hx hb dX2_takeBack_31 (lv_at hl 7 rfl) ?_
        refine lv_iload_n hx hb dX2_takeBack_33 rfl (lv_at hl 3 rfl) ?_
        refine lv_iload hx hb dX2_takeBack_34 (lv_at hl 4 rfl) ?_
        refine lv_iload hx hb dX2_takeBack_36 (lv_at hl 5 rfl) ?_
        refine g_calli (va_runV (As := [.int (nI w), .int key, .int q, .int r]) (rest := []) ⟨hx, hb, hml, hown, hts⟩ (c_fits l G base hD (i := w) (k := key) (q := q) (r := r) (by omega)) (cwV 4 hts gX2_takeBack_X0_fits rfl rfl rfl (by decide +kernel) ⟨(Nat.le_of_ble_eq_true rfl), (Nat.le_of_ble_eq_true rfl)⟩) (g_pv0 hK hG hLd hKd) rfl rfl hl.1 rfl (lv_room (Nat.le_of_ble_eq_true rfl)) dX2_takeBack_38 ⟨(Nat.le_of_ble_eq_true rfl), (Nat.le_of_ble_eq_true rfl)⟩) hG (fun y2 u H locs hp hG => ?_)
        have hp : y2 = bi (fitA α key q r w) := by
          rw [hp]
          exact congrArg bi (fitA_of hR hwc)
        subst hp
        refine lv_if_eq (tgt := 65) hx hb dX2_takeBack_41 (by decide) (fun c2 => ?_) (fun c2 => ?_)
        · have c2 := bi_0.mp c2
          have hlv : livA α k key q r w = false := livA_f2 c2
          refine lv_iinc (v := (nI (w + 1))) (lv' := [(8, .int (nI (w + 1))), (0, .ref (ad 0)), (1, .ref (ad (11 + 4 * k))), (2, .ref (ad (11 + 4 * D))), (3, .int key), (4, .int q), (5, .int r), (6, .long tot)]) hx hb dX2_takeBack_65 hl (k := 7) rfl (nI_1 w) (by decide) rfl (fun ls hl => ?_)
          refine lv_goto (tgt := 6) hx hb dX2_takeBack_68 (by decide) ?_
          exact ih (w := w + 1) (tot := tot) (hl := (lv_sub hl [1, 2, 3, 4, 5, 6, 7, 0] rfl)) (hG := hG) (inv := ⟨by omega, inv.2.1, fun i hi => by rw [tbk_f hlv]; exact inv.2.2.1 i hi, by rw [sumN_f hlv]; exact inv.2.2.2⟩) (hf := by omega)
        · have c2 := ts_nf (fun z => c2 (bi_0.mpr z))
          have hlv : livA α k key q r w = true := livA_t c1 c2
          refine lv_aload_n hx hb dX2_takeBack_44 rfl (lv_at hl 2 rfl) ?_
          refine lv_iload hx hb dX2_takeBack_45 (lv_at hl 7 rfl) ?_
          refine g_callv (va_runV (As := [.int (nI w)]) (rest := []) ⟨hx, hb, hml, hown, hts⟩ (c_see l G base hSD (i := w) (by omega)) (cwV 1 hts gX2_takeBack_X1_see rfl rfl rfl (by decide +kernel) ⟨(Nat.le_of_ble_eq_true rfl), (Nat.le_of_ble_eq_true rfl)⟩) (g_pv1 hK hG hLaD hKaD) rfl rfl hl.1 rfl (lv_room (Nat.le_of_ble_eq_true rfl)) dX2_takeBack_47 ⟨(Nat.le_of_ble_eq_true rfl), (Nat.le_of_ble_eq_true rfl)⟩) hG (fun u H locs hp hG => ?_)
          refine lv_lload hx hb dX2_takeBack_50 (lv_at hl 6 rfl) ?_
          refine lv_aload_n hx hb dX2_takeBack_52 rfl (lv_at hl 0 rfl) ?_
          refine r_Desk_dots hx hb hts (by decide +kernel) hown hK hG hLx hKx h2x (hts (.fieldLink RX2 21 "DotStores" "dots" "LDotStores$Dots;") (by decide +kernel)) dX2_takeBack_53 ?_
          refine r_Dots_value hx hb hts (by decide +kernel) hown hK hG hLd hKd h4d (hts (.fieldLink RX2 123 "DotStores$Dots" "value" "[J") (by decide +kernel)) dX2_takeBack_56 ?_
          refine lv_iload hx hb dX2_takeBack_59 (lv_at hl 7 rfl) ?_
          refine g_lald hx hb hK hG hLdv hKdv (w) rfl (by rw [hndv]; omega) (by rw [hndv]; decide) dX2_takeBack_61 ?_
          refine lv_topl (fun z2 ez2 => ?_)
          obtain rfl : z2 = a_val α w := ez2.trans ((by rw [hp, g_up_other _ _ _ (repX_ne hR (by omega) (by omega) (by omega)), inv.2.1 _ (repX_ne hR (by omega) (by omega) (by omega))]; exact (hR.2.2.2.1.2.2 w hwc).2.2.2.2.2.2))
          refine lv_ladd hx hb dX2_takeBack_62 ?_
          refine lv_lstore (lv' := [(6, .long (tot + (a_val α w))), (0, .ref (ad 0)), (1, .ref (ad (11 + 4 * k))), (2, .ref (ad (11 + 4 * D))), (3, .int key), (4, .int q), (5, .int r), (8, .int (nI w))]) hx hb dX2_takeBack_63 hl (by decide) rfl (fun ls hl => ?_)
          refine lv_iinc (v := (nI (w + 1))) (lv' := [(8, .int (nI (w + 1))), (6, .long (tot + (a_val α w))), (0, .ref (ad 0)), (1, .ref (ad (11 + 4 * k))), (2, .ref (ad (11 + 4 * D))), (3, .int key), (4, .int q), (5, .int r)]) hx hb dX2_takeBack_65 hl (k := 7) rfl (nI_1 w) (by decide) rfl (fun ls hl => ?_)
          refine lv_goto (tgt := 6) hx hb dX2_takeBack_68 (by decide) ?_
          exact ih (w := w + 1) (hl := (lv_sub hl [2, 3, 4, 5, 6, 7, 1, 0] rfl)) (hG := hG) (inv := ⟨by omega, fun b hb => by rw [hp, g_up_other _ _ _ hb]; exact inv.2.1 b hb, fun i hi => by rw [hp, rb_see, inv.2.2.1 i hi]; exact tbk_t hlv i, by rw [sumN_t hlv, inv.2.2.2]⟩) (hf := by omega)
