set_option maxHeartbeats 4000000 in
set_option maxRecDepth 100000 in
/-- Long.bitCount -/
theorem c_bitCount (l : Launch) (G : gG) (base : Nat) {L : List Nat} {K n : Nat → Nat} {rI : Nat → Nat → Int32} {rJ : Nat → Nat → Int64} {rQ : Nat → Nat → Option Nat} {fI : Nat → Nat → Int32} {fR : Nat → Nat → Option Nat} {nn : Nat} (hn : nn < 2 ^ 64) : Met l yJ13_bitCount_95d88 wsJ13_bitCount_95d88 ({ frames := 0, cells := 0, slots := 0, locals := 0 }) (va_Pc [.long (lN nn)] (g_Pr G base (L, K, n, rI, rJ, rQ, fI, fR))) (g_Qi G base (fun _ : Unit => (L, K, n, rI, rJ, rQ, fI, fR)) (fun x _ => x = nI (cntN (lb (lN nn)) 64))) 0 0 (g_A base) := by
  obtain ⟨x1, h1⟩ : ∃ z, z = nn - (nn / 2 &&& 6148914691236517205) := ⟨_, rfl⟩
  obtain ⟨x2, h2⟩ : ∃ z, z = (x1 &&& 3689348814741910323) + (x1 / 4 &&& 3689348814741910323) := ⟨_, rfl⟩
  obtain ⟨x3, h3⟩ : ∃ z, z = (x2 + x2 / 16) &&& 1085102592571150095 := ⟨_, rfl⟩
  obtain ⟨x4, h4⟩ : ∃ z, z = x3 + x3 / 256 := ⟨_, rfl⟩
  obtain ⟨x5, h5⟩ : ∃ z, z = x4 + x4 / 65536 := ⟨_, rfl⟩
  obtain ⟨x6, h6⟩ : ∃ z, z = x5 + x5 / 4294967296 := ⟨_, rfl⟩
  obtain ⟨l0, l1, l2, l3, l4, l5, l6, lc⟩ := pop_nat hn h1 h2 h3 h4 h5 h6
  refine Met.ofW (cc := cJ13_bitCount_95d88) (maxL := 2) (ret := (some .int)) (by decide) rfl ?_
  intro p e s m args below meth c s₁ B hml hv
  obtain ⟨rfl, hPr⟩ := hv
  have hx := B.exec
  have hb := B.bytes
  have hr := B.returns
  have hts := atoms_spec (ws := wsJ13_bitCount_95d88) B.pre
  have hown : s.vm.findClass RJ13 = some m.cls := findClass_of_methodNamed B.named
  have hlocks := B.notSynchronized
  have hin : meth.name = "bitCount" := (name_of_methodNamed B.named B.method).1
  have hK := hPr.2.2
  have hG := hPr.gw
  have hl := lv_entry ([.long (lN nn)]) (n := 2) (Nat.le_of_ble_eq_true rfl)
  rw [lg_entry_eq]
  generalize (lg_sl ([.long (lN nn)]) ++ List.replicate (2 - (lg_sl ([.long (lN nn)])).length) Slot.unset).toArray = ls at hl ⊢
  have hl : lv_has ls 2 [(0, .long (lN nn))] := hl
  refine g_start hPr (fun H locs hG => ?_)
  refine lv_lload_n hx hb dJ13_bitCount_95d88_0 rfl (lv_at hl 0 rfl) ?_
  refine lv_lload_n hx hb dJ13_bitCount_95d88_1 rfl (lv_at hl 0 rfl) ?_
  refine lv_iconst (v := 1) hx hb dJ13_bitCount_95d88_2 (by decide) ?_
  refine lv_lushr hx hb dJ13_bitCount_95d88_3 rfl ?_
  refine lv_topl (fun z1 ez1 => ?_)
  obtain rfl : z1 = lN (nn / 2) := ez1.trans (wb_shr (n := nn) (k := 1) hn (by decide))
  refine lv_ldc2 (v := (6148914691236517205)) hx hb hown (hts (.constantLong RJ13 314 (6148914691236517205)) (by decide +kernel)) dJ13_bitCount_95d88_4 ?_
  refine lv_land hx hb dJ13_bitCount_95d88_7 ?_
  refine lv_topl (fun z2 ez2 => ?_)
  obtain rfl : z2 = lN (nn / 2 &&& 6148914691236517205) := ez2.trans (wb_and (a := nn / 2) (b := 6148914691236517205) (by omega) (by decide))
  refine lv_lsub hx hb dJ13_bitCount_95d88_8 ?_
  refine lv_topl (fun z3 ez3 => ?_)
  obtain rfl : z3 = lN x1 := ez3.trans ((wb_sub l0).trans (by rw [h1]))
  refine lv_lstore_n (lv' := [(0, .long (lN x1))]) hx hb dJ13_bitCount_95d88_9 rfl hl (by decide) rfl (fun ls hl => ?_)
  refine lv_lload_n hx hb dJ13_bitCount_95d88_10 rfl (lv_at hl 0 rfl) ?_
  refine lv_ldc2 (v := (3689348814741910323)) hx hb hown (hts (.constantLong RJ13 316 (3689348814741910323)) (by decide +kernel)) dJ13_bitCount_95d88_11 ?_
  refine lv_land hx hb dJ13_bitCount_95d88_14 ?_
  refine lv_topl (fun z4 ez4 => ?_)
  obtain rfl : z4 = lN (x1 &&& 3689348814741910323) := ez4.trans (wb_and (a := x1) (b := 3689348814741910323) l1 (by decide))
  refine lv_lload_n hx hb dJ13_bitCount_95d88_15 rfl (lv_at hl 0 rfl) ?_
  refine lv_iconst (v := 2) hx hb dJ13_bitCount_95d88_16 (by decide) ?_
  refine lv_lushr hx hb dJ13_bitCount_95d88_17 rfl ?_
  refine lv_topl (fun z5 ez5 => ?_)
  obtain rfl : z5 = lN (x1 / 4) := ez5.trans (wb_shr (n := x1) (k := 2) l1 (by decide))
  refine lv_ldc2 (v := (3689348814741910323)) hx hb hown (hts (.constantLong RJ13 316 (3689348814741910323)) (by decide +kernel)) dJ13_bitCount_95d88_18 ?_
  refine lv_land hx hb dJ13_bitCount_95d88_21 ?_
  refine lv_topl (fun z6 ez6 => ?_)
  obtain rfl : z6 = lN (x1 / 4 &&& 3689348814741910323) := ez6.trans (wb_and (a := x1 / 4) (b := 3689348814741910323) (by omega) (by decide))
  refine lv_ladd hx hb dJ13_bitCount_95d88_22 ?_
  refine lv_topl (fun z7 ez7 => ?_)
  obtain rfl : z7 = lN x2 := ez7.trans ((wb_add _ _).trans (by rw [h2]))
  refine lv_lstore_n (lv' := [(0, .long (lN x2))]) hx hb dJ13_bitCount_95d88_23 rfl hl (by decide) rfl (fun ls hl => ?_)
  refine lv_lload_n hx hb dJ13_bitCount_95d88_24 rfl (lv_at hl 0 rfl) ?_
  refine lv_lload_n hx hb dJ13_bitCount_95d88_25 rfl (lv_at hl 0 rfl) ?_
  refine lv_iconst (v := 4) hx hb dJ13_bitCount_95d88_26 (by decide) ?_
  refine lv_lushr hx hb dJ13_bitCount_95d88_27 rfl ?_
  refine lv_topl (fun z8 ez8 => ?_)
  obtain rfl : z8 = lN (x2 / 16) := ez8.trans (wb_shr (n := x2) (k := 4) l2 (by decide))
  refine lv_ladd hx hb dJ13_bitCount_95d88_28 ?_
  refine lv_topl (fun z9 ez9 => ?_)
  obtain rfl : z9 = lN (x2 + x2 / 16) := ez9.trans (wb_add _ _)
  refine lv_ldc2 (v := (1085102592571150095)) hx hb hown (hts (.constantLong RJ13 318 (1085102592571150095)) (by decide +kernel)) dJ13_bitCount_95d88_29 ?_
  refine lv_land hx hb dJ13_bitCount_95d88_32 ?_
  refine lv_topl (fun z10 ez10 => ?_)
  obtain rfl : z10 = lN x3 := ez10.trans ((wb_and (a := x2 + x2 / 16) (b := 1085102592571150095) l3 (by decide)).trans (by rw [h3]))
  refine lv_lstore_n (lv' := [(0, .long (lN x3))]) hx hb dJ13_bitCount_95d88_33 rfl hl (by decide) rfl (fun ls hl => ?_)
  refine lv_lload_n hx hb dJ13_bitCount_95d88_34 rfl (lv_at hl 0 rfl) ?_
  refine lv_lload_n hx hb dJ13_bitCount_95d88_35 rfl (lv_at hl 0 rfl) ?_
  refine lv_bipush (v := 8) hx hb dJ13_bitCount_95d88_36 (by decide) ?_
  refine lv_lushr hx hb dJ13_bitCount_95d88_38 rfl ?_
  refine lv_topl (fun z11 ez11 => ?_)
  obtain rfl : z11 = lN (x3 / 256) := ez11.trans (wb_shr (n := x3) (k := 8) l4 (by decide))
  refine lv_ladd hx hb dJ13_bitCount_95d88_39 ?_
  refine lv_topl (fun z12 ez12 => ?_)
  obtain rfl : z12 = lN x4 := ez12.trans ((wb_add _ _).trans (by rw [h4]))
  refine lv_lstore_n (lv' := [(0, .long (lN x4))]) hx hb dJ13_bitCount_95d88_40 rfl hl (by decide) rfl (fun ls hl => ?_)
  refine lv_lload_n hx hb dJ13_bitCount_95d88_41 rfl (lv_at hl 0 rfl) ?_
  refine lv_lload_n hx hb dJ13_bitCount_95d88_42 rfl (lv_at hl 0 rfl) ?_
  refine lv_bipush (v := 16) hx hb dJ13_bitCount_95d88_43 (by decide) ?_
  refine lv_lushr hx hb dJ13_bitCount_95d88_45 rfl ?_
  refine lv_topl (fun z13 ez13 => ?_)
  obtain rfl : z13 = lN (x4 / 65536) := ez13.trans (wb_shr (n := x4) (k := 16) l5 (by decide))
  refine lv_ladd hx hb dJ13_bitCount_95d88_46 ?_
  refine lv_topl (fun z14 ez14 => ?_)
  obtain rfl : z14 = lN x5 := ez14.trans ((wb_add _ _).trans (by rw [h5]))
  refine lv_lstore_n (lv' := [(0, .long (lN x5))]) hx hb dJ13_bitCount_95d88_47 rfl hl (by decide) rfl (fun ls hl => ?_)
  refine lv_lload_n hx hb dJ13_bitCount_95d88_48 rfl (lv_at hl 0 rfl) ?_
  refine lv_lload_n hx hb dJ13_bitCount_95d88_49 rfl (lv_at hl 0 rfl) ?_
  refine lv_bipush (v := 32) hx hb dJ13_bitCount_95d88_50 (by decide) ?_
  refine lv_lushr hx hb dJ13_bitCount_95d88_52 rfl ?_
  refine lv_topl (fun z15 ez15 => ?_)
  obtain rfl : z15 = lN (x5 / 4294967296) := ez15.trans (wb_shr (n := x5) (k := 32) l6 (by decide))
  refine lv_ladd hx hb dJ13_bitCount_95d88_53 ?_
  refine lv_topl (fun z16 ez16 => ?_)
  obtain rfl : z16 = lN x6 := ez16.trans ((wb_add _ _).trans (by rw [h6]))
  refine lv_lstore_n (lv' := [(0, .long (lN x6))]) hx hb dJ13_bitCount_95d88_54 rfl hl (by decide) rfl (fun ls hl => ?_)
  refine lv_lload_n hx hb dJ13_bitCount_95d88_55 rfl (lv_at hl 0 rfl) ?_
  refine lv_l2i hx hb dJ13_bitCount_95d88_56 rfl ?_
  refine lv_bipush (v := 127) hx hb dJ13_bitCount_95d88_57 (by decide) ?_
  refine lv_iand hx hb dJ13_bitCount_95d88_59 ?_
  refine lv_topi (fun z17 ez17 => ?_)
  obtain rfl : z17 = nI (cntN (lb (lN nn)) 64) := ez17.trans ((wb_l2i x6).trans (by rw [lc]; exact congrArg nI (cntN_congr (fun j _ => (wb_lb hn j).symm))))
  refine W.widen (k := 0) (n := 0) (by omega) (by omega) ?_
  exact W.iret (v := (nI (cntN (lb (lN nn)) 64))) hx hb hr (fun t9 h9 hW9 => ⟨⟨(nI (cntN (lb (lN nn)) 64)), (), rfl, rfl, hG.at h9⟩, hG.2.2.1.F h9⟩) hG.2.2.1.2.2 dJ13_bitCount_95d88_60
/-- the bits of a row of words -/
theorem cntN_row (f : Nat → Int64) (w : Nat) : cntN (rb f) (64 * (w + 1)) = cntN (rb f) (64 * w) + cntN (lb (f w)) 64 := by
  rw [Nat.mul_add, Nat.mul_one, cntN_add]
  congr 1
  apply cntN_congr
  intro j hj
  unfold rb
  rw [show (64 * w + j) / 64 = w by omega, show (64 * w + j) % 64 = j by omega]
set_option maxHeartbeats 4000000 in
set_option maxRecDepth 100000 in
/-- bitsIn(words) -/
theorem c_bitsIn (l : Launch) (G : gG) (base : Nat) {L : List Nat} {K n : Nat → Nat} {rI : Nat → Nat → Int32} {rJ : Nat → Nat → Int64} {rQ : Nat → Nat → Option Nat} {fI : Nat → Nat → Int32} {fR : Nat → Nat → Option Nat} {b : Nat} (hLb : b ∈ L) (hKb : K b = 5) (hnb : n b = 4) : Met l yX2_bitsIn wsX2_bitsIn ({ frames := 1, cells := 0, slots := 0, locals := 21 }) (va_Pc [.ref b] (g_Pr G base (L, K, n, rI, rJ, rQ, fI, fR))) (g_Qi G base (fun _ : Unit => (L, K, n, rI, rJ, rQ, fI, fR)) (fun x _ => x = nI (cntN (rb (rJ b)) 256))) 0 0 (g_A base) := by
  refine Met.ofW (cc := cX2_bitsIn) (maxL := 3) (ret := (some .int)) (by decide) rfl ?_
  intro p e s m args below meth c s₁ B hml hv
  obtain ⟨rfl, hPr⟩ := hv
  have hx := B.exec
  have hb := B.bytes
  have hr := B.returns
  have hts := atoms_spec (ws := wsX2_bitsIn) B.pre
  have hown : s.vm.findClass RX2 = some m.cls := findClass_of_methodNamed B.named
  have hlocks := B.notSynchronized
  have hin : meth.name = "bitsIn" := (name_of_methodNamed B.named B.method).1
  have hK := hPr.2.2
  have hG := hPr.gw
  have hl := lv_entry ([.ref b]) (n := 3) (Nat.le_of_ble_eq_true rfl)
  rw [lg_entry_eq]
  generalize (lg_sl ([.ref b]) ++ List.replicate (3 - (lg_sl ([.ref b])).length) Slot.unset).toArray = ls at hl ⊢
  have hl : lv_has ls 3 [(0, .ref b)] := hl
  refine g_start hPr (fun H locs hG => ?_)
  refine lv_iconst (v := 0) hx hb dX2_bitsIn_0 (by decide) ?_
  refine lv_istore_n (lv' := [(1, .int 0), (0, .ref b)]) hx hb dX2_bitsIn_1 rfl hl (by decide) rfl (fun ls hl => ?_)
  refine lv_iconst (v := 0) hx hb dX2_bitsIn_2 (by decide) ?_
  refine lv_istore_n (lv' := [(2, .int 0), (1, .int 0), (0, .ref b)]) hx hb dX2_bitsIn_3 rfl hl (by decide) rfl (fun ls hl => ?_)
  obtain ⟨w, ew⟩ : ∃ z : Nat, z = 0 := ⟨_, rfl⟩
  obtain ⟨cc, ecc⟩ : ∃ z : Nat, z = 0 := ⟨_, rfl⟩
  replace hl : lv_has ls 3 [(0, .ref b), (1, .int (nI cc)), (2, .int (nI w))] := by subst ew ecc; exact (lv_sub hl [2, 1, 0] rfl)
  have inv : w ≤ 4 ∧ cc = cntN (rb (rJ b)) (64 * w) := by
    subst ew ecc
    exact ⟨by omega, rfl⟩
  have hf : 4 < w + 5 := by omega
  clear ew ecc
  generalize 5 = d at hf
  induction d generalizing w cc H locs ls with
  | zero => exact absurd hf (by have := inv.1; omega)
  | succ d ih =>
    refine lv_iload_n hx hb dX2_bitsIn_4 rfl (lv_at hl 2 rfl) ?_
    refine lv_aload_n hx hb dX2_bitsIn_5 rfl (lv_at hl 0 rfl) ?_
    refine g_alen5 hx hb hK hG hLb hKb 4 hnb dX2_bitsIn_6 ?_
    refine lv_icmp_ge (tgt := 25) hx hb dX2_bitsIn_7 (by decide) (fun c0 => ?_) (fun c0 => ?_)
    · have hw : w = 4 := by
        rcases Nat.lt_or_ge w 4 with q | q
        · exact absurd c0 (nI_ge q (by decide))
        · omega
      subst hw
      refine lv_iload_n hx hb dX2_bitsIn_25 rfl (lv_at hl 1 rfl) ?_
      refine W.widen (k := 0) (n := 0) (by omega) (by omega) ?_
      exact W.iret (v := (nI cc)) hx hb hr (fun t9 h9 hW9 => ⟨⟨(nI cc), (), rfl, (by rw [inv.2]), hG.at h9⟩, hG.2.2.1.F h9⟩) hG.2.2.1.2.2 dX2_bitsIn_26
    · have hw : w < 4 := by
        rcases Nat.lt_or_ge w 4 with q | q
        · exact q
        · exact absurd (nI_le (a := 4) q (by omega)) c0
      refine lv_iload_n hx hb dX2_bitsIn_10 rfl (lv_at hl 1 rfl) ?_
      refine lv_aload_n hx hb dX2_bitsIn_11 rfl (lv_at hl 0 rfl) ?_
      refine lv_iload_n hx hb dX2_bitsIn_12 rfl (lv_at hl 2 rfl) ?_
      refine g_lald hx hb hK hG hLb hKb (w) rfl (by rw [hnb]; omega) (by rw [hnb]; decide) dX2_bitsIn_13 ?_
      obtain ⟨nn, hnn, enn⟩ := wb_of (rJ b w)
      rw [enn]
      refine g_calli (va_runS (As := [.long (lN nn)]) (rest := [.int (nI cc)]) ⟨hx, hb, hml, hown, hts⟩ (c_bitCount l G base hnn) (va_cwS 1 hts gX2_bitsIn_J13_bitCount_95d88 rfl rfl rfl (by decide +kernel) ⟨(Nat.le_of_ble_eq_true rfl), (Nat.le_of_ble_eq_true rfl)⟩) (g_ps hK hG) rfl rfl hl.1 rfl (lv_room (Nat.le_of_ble_eq_true rfl)) dX2_bitsIn_14 ⟨(Nat.le_of_ble_eq_true rfl), (Nat.le_of_ble_eq_true rfl)⟩) hG (fun y1 _ H locs hp hG => ?_)
      rw [← enn] at hp
      subst hp
      refine lv_iadd hx hb dX2_bitsIn_17 ?_
      refine lv_topi (fun z1 ez1 => ?_)
      obtain rfl : z1 = nI (cc + cntN (lb (rJ b w)) 64) := ez1.trans (nI_add _ _)
      refine lv_istore_n (lv' := [(1, .int (nI (cc + cntN (lb (rJ b w)) 64))), (0, .ref b), (2, .int (nI w))]) hx hb dX2_bitsIn_18 rfl hl (by decide) rfl (fun ls hl => ?_)
      refine lv_iinc (v := (nI (w + 1))) (lv' := [(2, .int (nI (w + 1))), (1, .int (nI (cc + cntN (lb (rJ b w)) 64))), (0, .ref b)]) hx hb dX2_bitsIn_19 hl (k := 2) rfl (nI_1 w) (by decide) rfl (fun ls hl => ?_)
      refine lv_goto (tgt := 4) hx hb dX2_bitsIn_22 (by decide) ?_
      exact ih (w := w + 1) (cc := cc + cntN (lb (rJ b w)) 64) (hl := (lv_sub hl [2, 1, 0] rfl)) (hG := hG) (inv := ⟨by omega, by rw [cntN_row, inv.2]⟩) (hf := by omega)
