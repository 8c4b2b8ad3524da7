/-- what values and value tell: the values of the LIVE dots of a key, in order, each once -/
def OrdA (α : aT) (r : Nat) (key : Int32) (f : Nat → Int64) (m : Nat) : Prop := Sd f m ∧ ∀ y, Mb f m y ↔ ∃ i, i < a_cnt α ∧ livA α r key (-1) (-1) i = true ∧ a_val α i = y
theorem ex_s {P : Nat → Prop} {w : Nat} : (∃ i, i < w + 1 ∧ P i) ↔ ((∃ i, i < w ∧ P i) ∨ P w) := by
  constructor
  · rintro ⟨i, hi, h⟩
    rcases Nat.lt_succ_iff_lt_or_eq.mp hi with q | q
    · exact Or.inl ⟨i, q, h⟩
    · subst q; exact Or.inr h
  · rintro (⟨i, hi, h⟩ | h)
    · exact ⟨i, by omega, h⟩
    · exact ⟨w, by omega, h⟩
set_option maxHeartbeats 4000000 in
set_option maxRecDepth 100000 in
/-- orderValues(own, key) -/
theorem c_orderValues (l : Launch) (G : gG) (base : Nat) {L : List Nat} {K n : Nat → Nat} {rI : Nat → Nat → Int32} {rJ : Nat → Nat → Int64} {rQ : Nat → Nat → Option Nat} {fI : Nat → Nat → Int32} {fR : Nat → Nat → Option Nat} {ad : Nat → Nat} {α : aT} (hR : RepX (L, K, n, rI, rJ, rQ, fI, fR) ad α) {k : Nat} {key : Int32} (hk : k < 7 + a_nd α) : Met l yX2_orderValues wsX2_orderValues ({ frames := 1, cells := 0, slots := 0, locals := 25 }) (va_Pc [.ref (ad 0), .ref (ad (11 + 4 * k)), .int key] (g_Pr G base (L, K, n, rI, rJ, rQ, fI, fR))) (g_Qi G base (fun u : Nat × (Nat → Nat → Int64) => (L, K, n, rI, u.2, rQ, fI, fR)) (fun x u => x = nI u.1 ∧ u.1 ≤ 250 ∧ (∀ b, b ≠ ad 4 → u.2 b = rJ b) ∧ OrdA α k key (u.2 (ad 4)) u.1)) 0 0 (g_A base) := by
  have hDk : isDk L K n fR (ad 0) (ad 1) (ad 2) (ad 3) (ad 35) (ad 4) := hR.1.2.2.1
  have hD : isDt L K n fR (ad 3) (ad 5) (ad 6) (ad 7) (ad 8) (ad 9) (ad 10) := hR.1.2.2.2.1
  have hcnt : fI (ad 3) 6 = nI (a_cnt α) := hR.2.2.2.1.1
  have hmc : fI (ad 0) 5 = nI (a_nd α) := hR.2.1
  have hnd : a_nd α ≤ 250 := hR.1.1
  have hc250 : a_cnt α ≤ 250 := Nat.le_trans hR.2.2.1 hnd
  have hDk0 := hDk
  obtain ⟨hLx, hKx, h0x, h1x, h2x, h3x, h4x, hLra, hKra, hnra, hLma, hKma, hnma, hLod, hKod, hnod⟩ := hDk0
  have hD0 := hD
  obtain ⟨hLd, hKd, h0d, h1d, h2d, h3d, h4d, h5d, hLdr, hKdr, hndr, hLdn, hKdn, hndn, hLdk, hKdk, hndk, hLdp, hKdp, hndp, hLdv, hKdv, hndv, hLdg, hKdg, hndg⟩ := hD0
  have hSk : isSt L K n fR (ad (11 + 4 * k)) (ad (12 + 4 * k)) (ad (13 + 4 * k)) (ad (14 + 4 * k)) := repX_st hR hk
  have hS0 := hSk
  obtain ⟨hLak, hKak, h0ak, h1ak, h2ak, hLbk, hKbk, hnbk, hLck, hKck, hnck, hLek, hKek, hnek⟩ := hS0
  refine Met.ofW (cc := cX2_orderValues) (maxL := 5) (ret := (some .int)) (by decide) rfl ?_
  intro p e s m args below meth c s₁ B hml hv
  obtain ⟨rfl, hPr⟩ := hv
  have hx := B.exec
  have hb := B.bytes
  have hr := B.returns
  have hts := atoms_spec (ws := wsX2_orderValues) B.pre
  have hown : s.vm.findClass RX2 = some m.cls := findClass_of_methodNamed B.named
  have hlocks := B.notSynchronized
  have hin : meth.name = "orderValues" := (name_of_methodNamed B.named B.method).1
  have hK := hPr.2.2
  have hG := hPr.gw
  have hl := lv_entry ([.ref (ad 0), .ref (ad (11 + 4 * k)), .int key]) (n := 5) (Nat.le_of_ble_eq_true rfl)
  rw [lg_entry_eq]
  generalize (lg_sl ([.ref (ad 0), .ref (ad (11 + 4 * k)), .int key]) ++ List.replicate (5 - (lg_sl ([.ref (ad 0), .ref (ad (11 + 4 * k)), .int key])).length) Slot.unset).toArray = ls at hl ⊢
  have hl : lv_has ls 5 [(0, .ref (ad 0)), (1, .ref (ad (11 + 4 * k))), (2, .int key)] := hl
  refine g_start hPr (fun H locs hG => ?_)
  refine lv_iconst (v := 0) hx hb dX2_orderValues_0 (by decide) ?_
  refine lv_istore_n (lv' := [(3, .int 0), (0, .ref (ad 0)), (1, .ref (ad (11 + 4 * k))), (2, .int key)]) hx hb dX2_orderValues_1 rfl hl (by decide) rfl (fun ls hl => ?_)
  refine lv_iconst (v := 0) hx hb dX2_orderValues_2 (by decide) ?_
  refine lv_istore (lv' := [(4, .int 0), (3, .int 0), (0, .ref (ad 0)), (1, .ref (ad (11 + 4 * k))), (2, .int key)]) hx hb dX2_orderValues_3 hl (by decide) rfl (fun ls hl => ?_)
  obtain ⟨w, ew⟩ : ∃ z : Nat, z = 0 := ⟨_, rfl⟩
  obtain ⟨mm, emm⟩ : ∃ z : Nat, z = 0 := ⟨_, rfl⟩
  obtain ⟨r1, er1⟩ : ∃ z : Nat → Nat → Int64, z = rJ := ⟨_, rfl⟩
  replace hl : lv_has ls 5 [(0, .ref (ad 0)), (1, .ref (ad (11 + 4 * k))), (2, .int key), (3, .int (nI mm)), (4, .int (nI w))] := by subst ew emm er1; exact (lv_sub hl [2, 3, 4, 1, 0] rfl)
  replace hG : gw G base s.heap (L, K, n, rI, r1, rQ, fI, fR) H locs := by subst ew emm er1; exact hG
  have inv : w ≤ a_cnt α ∧ mm ≤ w ∧ (∀ b, b ≠ ad 4 → r1 b = rJ b) ∧ Sd (r1 (ad 4)) mm ∧ ∀ y, Mb (r1 (ad 4)) mm y ↔ ∃ i, i < w ∧ livA α k key (-1) (-1) i = true ∧ a_val α i = y := by
    subst ew emm er1
    exact ⟨by omega, by omega, fun _ _ => rfl, fun i j h1 h2 => absurd h2 (Nat.not_lt_zero j), fun y => ⟨fun ⟨i, hi, _⟩ => absurd hi (Nat.not_lt_zero i), fun ⟨i, hi, _⟩ => absurd hi (Nat.not_lt_zero i)⟩⟩
  have hf : a_cnt α < w + 251 := by omega
  clear ew emm er1
  generalize 251 = d at hf
  induction d generalizing w mm r1 H locs ls with
  | zero => exact absurd hf (by have := inv.1; omega)
  | succ d ih =>
    refine lv_iload hx hb dX2_orderValues_5 (lv_at hl 4 rfl) ?_
    refine lv_aload_n hx hb dX2_orderValues_7 rfl (lv_at hl 0 rfl) ?_
    refine r_Desk_dots hx hb hts (by decide +kernel) hown hK hG hLx hKx h2x (hts (.fieldLink RX2 21 "DotStores" "dots" "LDotStores$Dots;") (by decide +kernel)) dX2_orderValues_8 ?_
    refine r_Dots_count hx hb hts (by decide +kernel) hown hK hG hLd hKd (hts (.fieldLink RX2 108 "DotStores$Dots" "count" "I") (by decide +kernel)) dX2_orderValues_11 ?_
    refine lv_topi (fun z1 ez1 => ?_)
    obtain rfl : z1 = nI (a_cnt α) := ez1.trans (hcnt)
    refine lv_icmp_ge (tgt := 63) hx hb dX2_orderValues_14 (by decide) (fun c0 => ?_) (fun c0 => ?_)
    · have hwc : w = a_cnt α := Nat.le_antisymm inv.1 (nI_le_of (by omega) c0)
      refine lv_iload_n hx hb dX2_orderValues_63 rfl (lv_at hl 3 rfl) ?_
      refine W.widen (k := 0) (n := 0) (by omega) (by omega) ?_
      exact W.iret (v := (nI mm)) hx hb hr (fun t9 h9 hW9 => ⟨⟨(nI mm), (mm, r1), rfl, (by subst hwc; exact ⟨rfl, by have := inv.2.1; omega, inv.2.2.1, inv.2.2.2⟩), hG.at h9⟩, hG.2.2.1.F h9⟩) hG.2.2.1.2.2 dX2_orderValues_64
    · have hwc : w < a_cnt α := nI_lt_of (by omega) c0
      refine lv_aload_n hx hb dX2_orderValues_17 rfl (lv_at hl 1 rfl) ?_
      refine lv_iload hx hb dX2_orderValues_18 (lv_at hl 4 rfl) ?_
      refine g_calli (va_runV (As := [.int (nI w)]) (rest := []) ⟨hx, hb, hml, hown, hts⟩ (c_isLive l G base hSk (i := w) (by omega)) (cwV 1 hts gX2_orderValues_X1_isLive rfl rfl rfl (by decide +kernel) ⟨(Nat.le_of_ble_eq_true rfl), (Nat.le_of_ble_eq_true rfl)⟩) (g_pv1 hK hG hLak hKak) rfl rfl hl.1 rfl (lv_room (Nat.le_of_ble_eq_true rfl)) dX2_orderValues_20 ⟨(Nat.le_of_ble_eq_true rfl), (Nat.le_of_ble_eq_true rfl)⟩) hG (fun y1 u H locs hp hG => ?_)
      have hp : y1 = bi (a_L α k w) := by
        rw [hp, inv.2.2.1 _ (repX_ne hR (by omega) (by omega) (by omega))]
        exact congrArg bi ((hR.2.2.2.2 k hk).1 w (by omega)).2
      subst hp
      refine lv_if_eq (tgt := 57) hx hb dX2_orderValues_23 (by decide) (fun c1 => ?_) (fun c1 => ?_)
      · have c1 := bi_0.mp c1
        have hlv : livA α k key (-1) (-1) w = false := livA_f1 c1
        refine lv_iinc (v := (nI (w + 1))) (lv' := [(4, .int (nI (w + 1))), (0, .ref (ad 0)), (1, .ref (ad (11 + 4 * k))), (2, .int key), (3, .int (nI mm))]) hx hb dX2_orderValues_57 hl (k := 4) rfl (nI_1 w) (by decide) rfl (fun ls hl => ?_)
        refine lv_goto (tgt := 5) hx hb dX2_orderValues_60 (by decide) ?_
        exact ih (w := w + 1) (mm := mm) (hl := (lv_sub hl [1, 2, 3, 4, 0] rfl)) (hG := hG) (inv := ⟨by omega, by omega, inv.2.2.1, inv.2.2.2.1, fun y => (inv.2.2.2.2 y).trans ⟨fun z => ex_s.mpr (Or.inl z), fun z => (ex_s.mp z).elim id (fun q => absurd (hlv.symm.trans q.1) (by decide))⟩⟩) (hf := by omega)
      · have c1 := ts_nf (fun z => c1 (bi_0.mpr z))
        refine lv_aload_n hx hb dX2_orderValues_26 rfl (lv_at hl 0 rfl) ?_
        refine r_Desk_dots hx hb hts (by decide +kernel) hown hK hG hLx hKx h2x (hts (.fieldLink RX2 21 "DotStores" "dots" "LDotStores$Dots;") (by decide +kernel)) dX2_orderValues_27 ?_
        refine lv_iload hx hb dX2_orderValues_30 (lv_at hl 4 rfl) ?_
        refine lv_iload_n hx hb dX2_orderValues_32 rfl (lv_at hl 2 rfl) ?_
        refine lv_iconst (v := (-1)) hx hb dX2_orderValues_33 (by decide) ?_
        refine lv_iconst (v := (-1)) hx hb dX2_orderValues_34 (by decide) ?_
        refine g_calli (va_runV (As := [.int (nI w), .int key, .int (-1), .int (-1)]) (rest := []) ⟨hx, hb, hml, hown, hts⟩ (c_fits l G base hD (i := w) (k := key) (q := (-1)) (r := (-1)) (by omega)) (cwV 4 hts gX2_orderValues_X0_fits rfl rfl rfl (by decide +kernel) ⟨(Nat.le_of_ble_eq_true rfl), (Nat.le_of_ble_eq_true rfl)⟩) (g_pv0 hK hG hLd hKd) rfl rfl hl.1 rfl (lv_room (Nat.le_of_ble_eq_true rfl)) dX2_orderValues_35 ⟨(Nat.le_of_ble_eq_true rfl), (Nat.le_of_ble_eq_true rfl)⟩) hG (fun y2 u H locs hp hG => ?_)
        have hp : y2 = bi (fitA α key (-1) (-1) w) := by
          rw [hp]
          exact congrArg bi (fitA_of hR hwc)
        subst hp
        refine lv_if_eq (tgt := 57) hx hb dX2_orderValues_38 (by decide) (fun c2 => ?_) (fun c2 => ?_)
        · have c2 := bi_0.mp c2
          have hlv : livA α k key (-1) (-1) w = false := livA_f2 c2
          refine lv_iinc (v := (nI (w + 1))) (lv' := [(4, .int (nI (w + 1))), (0, .ref (ad 0)), (1, .ref (ad (11 + 4 * k))), (2, .int key), (3, .int (nI mm))]) hx hb dX2_orderValues_57 hl (k := 4) rfl (nI_1 w) (by decide) rfl (fun ls hl => ?_)
          refine lv_goto (tgt := 5) hx hb dX2_orderValues_60 (by decide) ?_
          exact ih (w := w + 1) (mm := mm) (hl := (lv_sub hl [1, 2, 3, 4, 0] rfl)) (hG := hG) (inv := ⟨by omega, by omega, inv.2.2.1, inv.2.2.2.1, fun y => (inv.2.2.2.2 y).trans ⟨fun z => ex_s.mpr (Or.inl z), fun z => (ex_s.mp z).elim id (fun q => absurd (hlv.symm.trans q.1) (by decide))⟩⟩) (hf := by omega)
        · have c2 := ts_nf (fun z => c2 (bi_0.mpr z))
          have hlv : livA α k key (-1) (-1) w = true := livA_t c1 c2
          refine lv_aload_n hx hb dX2_orderValues_41 rfl (lv_at hl 0 rfl) ?_
          refine lv_aload_n hx hb dX2_orderValues_42 rfl (lv_at hl 0 rfl) ?_
          refine r_Desk_dots hx hb hts (by decide +kernel) hown hK hG hLx hKx h2x (hts (.fieldLink RX2 21 "DotStores" "dots" "LDotStores$Dots;") (by decide +kernel)) dX2_orderValues_43 ?_
          refine r_Dots_value hx hb hts (by decide +kernel) hown hK hG hLd hKd h4d (hts (.fieldLink RX2 123 "DotStores$Dots" "value" "[J") (by decide +kernel)) dX2_orderValues_46 ?_
          refine lv_iload hx hb dX2_orderValues_49 (lv_at hl 4 rfl) ?_
          refine g_lald hx hb hK hG hLdv hKdv (w) rfl (by rw [hndv]; omega) (by rw [hndv]; decide) dX2_orderValues_51 ?_
          refine lv_topl (fun z2 ez2 => ?_)
          obtain rfl : z2 = a_val α w := ez2.trans ((by rw [inv.2.2.1 _ (repX_ne hR (by omega) (by omega) (by omega))]; exact (hR.2.2.2.1.2.2 w hwc).2.2.2.2.2.2))
          refine lv_iload_n hx hb dX2_orderValues_52 rfl (lv_at hl 3 rfl) ?_
          refine g_calli (va_runV (As := [.long (a_val α w), .int (nI mm)]) (rest := []) ⟨hx, hb, hml, hown, hts⟩ (c_orderValue l G base hDk (v := a_val α w) (mm := mm) (by have := inv.2.1; omega) inv.2.2.2.1) (cwV 2 hts gX2_orderValues_X2_orderValue rfl rfl rfl (by decide +kernel) ⟨(Nat.le_of_ble_eq_true rfl), (Nat.le_of_ble_eq_true rfl)⟩) (g_pv2 hK hG hLx hKx) rfl rfl hl.1 rfl (lv_room (Nat.le_of_ble_eq_true rfl)) dX2_orderValues_53 ⟨(Nat.le_of_ble_eq_true rfl), (Nat.le_of_ble_eq_true rfl)⟩) hG (fun y3 u H locs hp hG => ?_)
          obtain ⟨m2, r2⟩ := u
          replace hG : gw G base s.heap (L, K, n, rI, r2, rQ, fI, fR) H locs := hG
          obtain ⟨he, hp⟩ := hp
          replace he : y3 = nI m2 := he
          subst he
          replace hp : True ∧ m2 ≤ mm + 1 ∧ (∀ b, b ≠ ad 4 → r2 b = r1 b) ∧ Sd (r2 (ad 4)) m2 ∧ ∀ y, Mb (r2 (ad 4)) m2 y ↔ (Mb (r1 (ad 4)) mm y ∨ y = a_val α w) := ⟨trivial, hp⟩
          refine lv_istore_n (lv' := [(3, .int (nI m2)), (0, .ref (ad 0)), (1, .ref (ad (11 + 4 * k))), (2, .int key), (4, .int (nI w))]) hx hb dX2_orderValues_56 rfl hl (by decide) rfl (fun ls hl => ?_)
          refine lv_iinc (v := (nI (w + 1))) (lv' := [(4, .int (nI (w + 1))), (3, .int (nI m2)), (0, .ref (ad 0)), (1, .ref (ad (11 + 4 * k))), (2, .int key)]) hx hb dX2_orderValues_57 hl (k := 4) rfl (nI_1 w) (by decide) rfl (fun ls hl => ?_)
          refine lv_goto (tgt := 5) hx hb dX2_orderValues_60 (by decide) ?_
          exact ih (w := w + 1) (mm := m2) (r1 := r2) (hl := (lv_sub hl [2, 3, 4, 1, 0] rfl)) (hG := hG) (inv := ⟨by omega, by have := hp.2.1; have := inv.2.1; omega, fun b hb => (hp.2.2.1 b hb).trans (inv.2.2.1 b hb), hp.2.2.2.1, fun y => (hp.2.2.2.2 y).trans ((or_congr (inv.2.2.2.2 y) ⟨fun q => ⟨hlv, q.symm⟩, fun q => q.2.symm⟩).trans ex_s.symm)⟩) (hf := by omega)
set_option maxHeartbeats 4000000 in
set_option maxRecDepth 100000 in
/-- values -/
theorem c_values (l : Launch) (G : gG) (base : Nat) {L : List Nat} {K n : Nat → Nat} {rI : Nat → Nat → Int32} {rJ : Nat → Nat → Int64} {rQ : Nat → Nat → Option Nat} {fI : Nat → Nat → Int32} {fR : Nat → Nat → Option Nat} (hl0 : l.stackTraces = false) {ad : Nat → Nat} {α : aT} (hR : RepX (L, K, n, rI, rJ, rQ, fI, fR) ad α) {i key : Int32} : vx_Met l yX2_values wsX2_values ({ frames := 7, cells := 12, slots := 100, locals := 111 }) (va_Pc [.ref (ad 0), .int i, .int key] (g_Px G base (L, K, n, rI, rJ, rQ, fI, fR))) (g_Qi G base (fun u : (Nat × (Nat → Nat → Int64)) × Nat => (L, K, n, rI, u.1.2, rQ, fI, fR)) (fun x u => (u.2 < 6 ∧ i = nI u.2) ∧ (okI i 6 ∧ okI key 16) ∧ x = nI u.1.1 ∧ OrdA α u.2 key (u.1.2 (ad 4)) u.1.1 ∧ StpX (L, K, n, rI, rJ, rQ, fI, fR) ad α (L, K, n, rI, u.1.2, rQ, fI, fR) ad α)) (g_XC G base (L, K, n, rI, rJ, rQ, fI, fR) (fun E => E = "java/lang/IndexOutOfBoundsException" ∧ ¬ (okI i 6 ∧ okI key 16))) 12 100 (g_A base) := by
  have hDk : isDk L K n fR (ad 0) (ad 1) (ad 2) (ad 3) (ad 35) (ad 4) := hR.1.2.2.1
  have hD : isDt L K n fR (ad 3) (ad 5) (ad 6) (ad 7) (ad 8) (ad 9) (ad 10) := hR.1.2.2.2.1
  have hcnt : fI (ad 3) 6 = nI (a_cnt α) := hR.2.2.2.1.1
  have hmc : fI (ad 0) 5 = nI (a_nd α) := hR.2.1
  have hnd : a_nd α ≤ 250 := hR.1.1
  have hc250 : a_cnt α ≤ 250 := Nat.le_trans hR.2.2.1 hnd
  have hDk0 := hDk
  obtain ⟨hLx, hKx, h0x, h1x, h2x, h3x, h4x, hLra, hKra, hnra, hLma, hKma, hnma, hLod, hKod, hnod⟩ := hDk0
  have hD0 := hD
  obtain ⟨hLd, hKd, h0d, h1d, h2d, h3d, h4d, h5d, hLdr, hKdr, hndr, hLdn, hKdn, hndn, hLdk, hKdk, hndk, hLdp, hKdp, hndp, hLdv, hKdv, hndv, hLdg, hKdg, hndg⟩ := hD0
  have hgr : ∀ r, r < 6 → rI (ad 10) r = nI (a_g α r) ∧ a_g α r ≤ 100 := hR.2.2.2.1.2.1
  refine vx_ofW (cc := cX2_values) (maxL := 4) (ret := (some .int)) (by decide) rfl ?_
  intro p e s m args below meth c s₁ B hml hnt hv
  obtain ⟨rfl, hPr, hX⟩ := hv
  have hx := B.exec
  have hb := B.bytes
  have hr := B.returns
  have hts := atoms_spec (ws := wsX2_values) B.pre
  have hown : s.vm.findClass RX2 = some m.cls := findClass_of_methodNamed B.named
  have hlocks := B.notSynchronized
  have hin : meth.name = "values" := (name_of_methodNamed B.named B.method).1
  have hK := hPr.2.2
  have hG := hPr.gw
  have hl := lv_entry ([.ref (ad 0), .int i, .int key]) (n := 4) (Nat.le_of_ble_eq_true rfl)
  rw [lg_entry_eq]
  generalize (lg_sl ([.ref (ad 0), .int i, .int key]) ++ List.replicate (4 - (lg_sl ([.ref (ad 0), .int i, .int key])).length) Slot.unset).toArray = ls at hl ⊢
  have hl : lv_has ls 4 [(0, .ref (ad 0)), (1, .int i), (2, .int key)] := hl
  refine g_start hPr (fun H locs hG => ?_)
  refine lv_aload_n hx hb dX2_values_0 rfl (lv_at hl 0 rfl) ?_
  refine lv_iload_n hx hb dX2_values_1 rfl (lv_at hl 1 rfl) ?_
  refine g_xr (vx_runV (As := [.int i]) (rest := []) ⟨hx, hb, hml, hown, hts⟩ (c_replicaAt l G base hl0 hDk (sa := fun r => ad (11 + 4 * r)) hR.1.2.2.2.2.2.1 (i := i)) (cwV 1 hts gX2_values_X2_replicaAt rfl rfl rfl (by decide +kernel) ⟨(Nat.le_of_ble_eq_true rfl), (Nat.le_of_ble_eq_true rfl)⟩) (g_px2 hK hX hG hLx hKx) rfl rfl hl.1 rfl (lv_room (Nat.le_of_ble_eq_true rfl)) dX2_values_2 ⟨(Nat.le_of_ble_eq_true rfl), (Nat.le_of_ble_eq_true rfl)⟩) hG (fun E ce q9 H locs hpx hG hce hcv hcl => ?_) (fun a0 r H locs hp hG => ?_)
  · exact g_out hnt hlocks hce hcv hcl ⟨hpx.1, fun z => hpx.2 z.1⟩ hG (by omega) (by omega)
  obtain ⟨hr6, rfl, ea⟩ := hp
  replace ea : a0 = ad (11 + 4 * r) := ea
  subst ea
  have hSr : isSt L K n fR (ad (11 + 4 * r)) (ad (12 + 4 * r)) (ad (13 + 4 * r)) (ad (14 + 4 * r)) := repX_st hR (show r < 7 + a_nd α by omega)
  have hS0 := hSr
  obtain ⟨hLar, hKar, h0ar, h1ar, h2ar, hLbr, hKbr, hnbr, hLcr, hKcr, hncr, hLer, hKer, hner⟩ := hS0
  refine lv_astore_n (lv' := [(3, .ref (ad (11 + 4 * r))), (0, .ref (ad 0)), (1, .int (nI r)), (2, .int key)]) hx hb dX2_values_5 rfl hl (by decide) rfl (fun ls hl => ?_)
  refine lv_iload_n hx hb dX2_values_6 rfl (lv_at hl 3 rfl) ?_
  refine lv_bipush (v := 16) hx hb dX2_values_7 (by decide) ?_
  refine g_xv (vx_runS (As := [.int key, .int 16]) (rest := []) ⟨hx, hb, hml, hown, hts⟩ (c_requireIndex l G base hl0 (i := key) (b := 16)) (cwS 2 hts gX2_values_X2_requireIndex rfl rfl rfl (by decide +kernel) ⟨(Nat.le_of_ble_eq_true rfl), (Nat.le_of_ble_eq_true rfl)⟩) (g_psx hK hX hG) rfl rfl hl.1 rfl (lv_room (Nat.le_of_ble_eq_true rfl)) dX2_values_9 ⟨(Nat.le_of_ble_eq_true rfl), (Nat.le_of_ble_eq_true rfl)⟩) hG (fun E ce q9 H locs hpx hG hce hcv hcl => ?_) (fun _ H locs hp hG => ?_)
  · exact g_out hnt hlocks hce hcv hcl ⟨hpx.1, fun z => okI_no (by decide) hpx.2 z.2⟩ hG (by omega) (by omega)
  have hk16 : okI key 16 := okI_of (by decide) hp.1 hp.2
  refine lv_aload_n hx hb dX2_values_12 rfl (lv_at hl 1 rfl) ?_
  refine lv_aload_n hx hb dX2_values_13 rfl (lv_at hl 0 rfl) ?_
  refine lv_iload_n hx hb dX2_values_14 rfl (lv_at hl 3 rfl) ?_
  refine g_calli (va_runV (As := [.ref (ad (11 + 4 * r)), .int key]) (rest := []) ⟨hx, hb, hml, hown, hts⟩ (c_orderValues l G base hR (k := r) (key := key) (by omega)) (cwV 2 hts gX2_values_X2_orderValues rfl rfl rfl (by decide +kernel) ⟨(Nat.le_of_ble_eq_true rfl), (Nat.le_of_ble_eq_true rfl)⟩) (g_pv2 hK hG hLx hKx) rfl rfl hl.1 rfl (lv_room (Nat.le_of_ble_eq_true rfl)) dX2_values_15 ⟨(Nat.le_of_ble_eq_true rfl), (Nat.le_of_ble_eq_true rfl)⟩) hG (fun y3 u H locs hp hG => ?_)
  obtain ⟨m2, r2⟩ := u
  replace hG : gw G base s.heap (L, K, n, rI, r2, rQ, fI, fR) H locs := hG
  obtain ⟨he, hm2, hJ2, hO2⟩ := hp
  replace he : y3 = nI m2 := he
  subst he
  replace hm2 : m2 ≤ 250 := hm2
  have hP2 : StpX (L, K, n, rI, rJ, rQ, fI, fR) ad α (L, K, n, rI, r2, rQ, fI, fR) ad α := StpX.of rfl (repX_ord hR hJ2)
  refine vx_ret ?_
  refine W.widen (k := 12) (n := 100) (by omega) (by omega) ?_
  exact W.iret (v := (nI m2)) hx hb hr (fun t9 h9 hW9 => ⟨⟨(nI m2), ((m2, r2), r), rfl, ⟨⟨hr6, rfl⟩, ⟨⟨r, hr6, rfl⟩, hk16⟩, rfl, hO2, hP2⟩, hG.at h9⟩, hG.2.2.1.F h9⟩) hG.2.2.1.2.2 dX2_values_18
set_option maxHeartbeats 4000000 in
set_option maxRecDepth 100000 in
/-- value -/
theorem c_value (l : Launch) (G : gG) (base : Nat) {L : List Nat} {K n : Nat → Nat} {rI : Nat → Nat → Int32} {rJ : Nat → Nat → Int64} {rQ : Nat → Nat → Option Nat} {fI : Nat → Nat → Int32} {fR : Nat → Nat → Option Nat} (hl0 : l.stackTraces = false) {ad : Nat → Nat} {α : aT} (hR : RepX (L, K, n, rI, rJ, rQ, fI, fR) ad α) {i key gx : Int32} : vx_Met l yX2_value wsX2_value ({ frames := 7, cells := 12, slots := 100, locals := 111 }) (va_Pc [.ref (ad 0), .int i, .int key, .int gx] (g_Px G base (L, K, n, rI, rJ, rQ, fI, fR))) (g_Ql G base (fun u : ((Nat × (Nat → Nat → Int64)) × Nat) × Nat => (L, K, n, rI, u.1.1.2, rQ, fI, fR)) (fun x u => (u.1.2 < 6 ∧ i = nI u.1.2) ∧ (okI i 6 ∧ okI key 16) ∧ (u.2 < u.1.1.1 ∧ gx = nI u.2) ∧ u.1.1.1 ≤ 250 ∧ x = u.1.1.2 (ad 4) u.2 ∧ OrdA α u.1.2 key (u.1.1.2 (ad 4)) u.1.1.1 ∧ StpX (L, K, n, rI, rJ, rQ, fI, fR) ad α (L, K, n, rI, u.1.1.2, rQ, fI, fR) ad α)) (g_XS G base (fun u : Option (Nat × (Nat → Nat → Int64) × Nat) => match u with | none => (L, K, n, rI, rJ, rQ, fI, fR) | some u => (L, K, n, rI, u.2.1, rQ, fI, fR)) (fun E (u : Option (Nat × (Nat → Nat → Int64) × Nat)) => E = "java/lang/IndexOutOfBoundsException" ∧ (match u with | none => ¬ (okI i 6 ∧ okI key 16) | some u => (u.2.2 < 6 ∧ i = nI u.2.2) ∧ (okI i 6 ∧ okI key 16) ∧ ¬ okI gx u.1 ∧ u.1 ≤ 250 ∧ OrdA α u.2.2 key (u.2.1 (ad 4)) u.1 ∧ StpX (L, K, n, rI, rJ, rQ, fI, fR) ad α (L, K, n, rI, u.2.1, rQ, fI, fR) ad α))) 12 100 (g_A base) := by
  have hDk : isDk L K n fR (ad 0) (ad 1) (ad 2) (ad 3) (ad 35) (ad 4) := hR.1.2.2.1
  have hD : isDt L K n fR (ad 3) (ad 5) (ad 6) (ad 7) (ad 8) (ad 9) (ad 10) := hR.1.2.2.2.1
  have hcnt : fI (ad 3) 6 = nI (a_cnt α) := hR.2.2.2.1.1
  have hmc : fI (ad 0) 5 = nI (a_nd α) := hR.2.1
  have hnd : a_nd α ≤ 250 := hR.1.1
  have hc250 : a_cnt α ≤ 250 := Nat.le_trans hR.2.2.1 hnd
  have hDk0 := hDk
  obtain ⟨hLx, hKx, h0x, h1x, h2x, h3x, h4x, hLra, hKra, hnra, hLma, hKma, hnma, hLod, hKod, hnod⟩ := hDk0
  have hD0 := hD
  obtain ⟨hLd, hKd, h0d, h1d, h2d, h3d, h4d, h5d, hLdr, hKdr, hndr, hLdn, hKdn, hndn, hLdk, hKdk, hndk, hLdp, hKdp, hndp, hLdv, hKdv, hndv, hLdg, hKdg, hndg⟩ := hD0
  have hgr : ∀ r, r < 6 → rI (ad 10) r = nI (a_g α r) ∧ a_g α r ≤ 100 := hR.2.2.2.1.2.1
  refine vx_ofW (cc := cX2_value) (maxL := 5) (ret := (some .long)) (by decide) rfl ?_
  intro p e s m args below meth c s₁ B hml hnt hv
  obtain ⟨rfl, hPr, hX⟩ := hv
  have hx := B.exec
  have hb := B.bytes
  have hr := B.returns
  have hts := atoms_spec (ws := wsX2_value) B.pre
  have hown : s.vm.findClass RX2 = some m.cls := findClass_of_methodNamed B.named
  have hlocks := B.notSynchronized
  have hin : meth.name = "value" := (name_of_methodNamed B.named B.method).1
  have hK := hPr.2.2
  have hG := hPr.gw
  have hl := lv_entry ([.ref (ad 0), .int i, .int key, .int gx]) (n := 5) (Nat.le_of_ble_eq_true rfl)
  rw [lg_entry_eq]
  generalize (lg_sl ([.ref (ad 0), .int i, .int key, .int gx]) ++ List.replicate (5 - (lg_sl ([.ref (ad 0), .int i, .int key, .int gx])).length) Slot.unset).toArray = ls at hl ⊢
  have hl : lv_has ls 5 [(0, .ref (ad 0)), (1, .int i), (2, .int key), (3, .int gx)] := hl
  refine g_start hPr (fun H locs hG => ?_)
  refine lv_aload_n hx hb dX2_value_0 rfl (lv_at hl 0 rfl) ?_
  refine lv_iload_n hx hb dX2_value_1 rfl (lv_at hl 1 rfl) ?_
  refine g_xr (vx_runV (As := [.int i]) (rest := []) ⟨hx, hb, hml, hown, hts⟩ (c_replicaAt l G base hl0 hDk (sa := fun r => ad (11 + 4 * r)) hR.1.2.2.2.2.2.1 (i := i)) (cwV 1 hts gX2_value_X2_replicaAt rfl rfl rfl (by decide +kernel) ⟨(Nat.le_of_ble_eq_true rfl), (Nat.le_of_ble_eq_true rfl)⟩) (g_px2 hK hX hG hLx hKx) rfl rfl hl.1 rfl (lv_room (Nat.le_of_ble_eq_true rfl)) dX2_value_2 ⟨(Nat.le_of_ble_eq_true rfl), (Nat.le_of_ble_eq_true rfl)⟩) hG (fun E ce q9 H locs hpx hG hce hcv hcl => ?_) (fun a0 r H locs hp hG => ?_)
  · exact g_outS none hnt hlocks hce hcv hcl ⟨hpx.1, fun z => hpx.2 z.1⟩ hG (by omega) (by omega)
  obtain ⟨hr6, rfl, ea⟩ := hp
  replace ea : a0 = ad (11 + 4 * r) := ea
  subst ea
  have hSr : isSt L K n fR (ad (11 + 4 * r)) (ad (12 + 4 * r)) (ad (13 + 4 * r)) (ad (14 + 4 * r)) := repX_st hR (show r < 7 + a_nd α by omega)
  have hS0 := hSr
  obtain ⟨hLar, hKar, h0ar, h1ar, h2ar, hLbr, hKbr, hnbr, hLcr, hKcr, hncr, hLer, hKer, hner⟩ := hS0
  refine lv_astore (lv' := [(4, .ref (ad (11 + 4 * r))), (0, .ref (ad 0)), (1, .int (nI r)), (2, .int key), (3, .int gx)]) hx hb dX2_value_5 hl (by decide) rfl (fun ls hl => ?_)
  refine lv_iload_n hx hb dX2_value_7 rfl (lv_at hl 3 rfl) ?_
  refine lv_bipush (v := 16) hx hb dX2_value_8 (by decide) ?_
  refine g_xv (vx_runS (As := [.int key, .int 16]) (rest := []) ⟨hx, hb, hml, hown, hts⟩ (c_requireIndex l G base hl0 (i := key) (b := 16)) (cwS 2 hts gX2_value_X2_requireIndex rfl rfl rfl (by decide +kernel) ⟨(Nat.le_of_ble_eq_true rfl), (Nat.le_of_ble_eq_true rfl)⟩) (g_psx hK hX hG) rfl rfl hl.1 rfl (lv_room (Nat.le_of_ble_eq_true rfl)) dX2_value_10 ⟨(Nat.le_of_ble_eq_true rfl), (Nat.le_of_ble_eq_true rfl)⟩) hG (fun E ce q9 H locs hpx hG hce hcv hcl => ?_) (fun _ H locs hp hG => ?_)
  · exact g_outS none hnt hlocks hce hcv hcl ⟨hpx.1, fun z => okI_no (by decide) hpx.2 z.2⟩ hG (by omega) (by omega)
  have hk16 : okI key 16 := okI_of (by decide) hp.1 hp.2
  refine lv_iload_n hx hb dX2_value_13 rfl (lv_at hl 4 rfl) ?_
  refine lv_aload_n hx hb dX2_value_14 rfl (lv_at hl 1 rfl) ?_
  refine lv_aload hx hb dX2_value_15 (lv_at hl 0 rfl) ?_
  refine lv_iload_n hx hb dX2_value_17 rfl (lv_at hl 3 rfl) ?_
  refine g_calli (va_runV (As := [.ref (ad (11 + 4 * r)), .int key]) (rest := [.int gx]) ⟨hx, hb, hml, hown, hts⟩ (c_orderValues l G base hR (k := r) (key := key) (by omega)) (cwV 2 hts gX2_value_X2_orderValues rfl rfl rfl (by decide +kernel) ⟨(Nat.le_of_ble_eq_true rfl), (Nat.le_of_ble_eq_true rfl)⟩) (g_pv2 hK hG hLx hKx) rfl rfl hl.1 rfl (lv_room (Nat.le_of_ble_eq_true rfl)) dX2_value_18 ⟨(Nat.le_of_ble_eq_true rfl), (Nat.le_of_ble_eq_true rfl)⟩) hG (fun y3 u H locs hp hG => ?_)
  obtain ⟨m2, r2⟩ := u
  replace hG : gw G base s.heap (L, K, n, rI, r2, rQ, fI, fR) H locs := hG
  obtain ⟨he, hm2, hJ2, hO2⟩ := hp
  replace he : y3 = nI m2 := he
  subst he
  replace hm2 : m2 ≤ 250 := hm2
  have hP2 : StpX (L, K, n, rI, rJ, rQ, fI, fR) ad α (L, K, n, rI, r2, rQ, fI, fR) ad α := StpX.of rfl (repX_ord hR hJ2)
  refine g_xv (vx_runS (As := [.int gx, .int (nI m2)]) (rest := []) ⟨hx, hb, hml, hown, hts⟩ (c_requireIndex l G base hl0 (i := gx) (b := nI m2)) (cwS 2 hts gX2_value_X2_requireIndex rfl rfl rfl (by decide +kernel) ⟨(Nat.le_of_ble_eq_true rfl), (Nat.le_of_ble_eq_true rfl)⟩) (g_psx hK hX hG) rfl rfl hl.1 rfl (lv_room (Nat.le_of_ble_eq_true rfl)) dX2_value_21 ⟨(Nat.le_of_ble_eq_true rfl), (Nat.le_of_ble_eq_true rfl)⟩) hG (fun E ce q9 H locs hpx hG hce hcv hcl => ?_) (fun _ H locs hp hG => ?_)
  · exact g_outS (some (m2, r2, r)) hnt hlocks hce hcv hcl ⟨hpx.1, ⟨hr6, rfl⟩, ⟨⟨r, hr6, rfl⟩, hk16⟩, okI_no (by omega) hpx.2, hm2, hO2, hP2⟩ hG (by omega) (by omega)
  obtain ⟨xx, hxx, rfl⟩ := okI_of (N := m2) (by omega) hp.1 hp.2
  refine lv_aload_n hx hb dX2_value_24 rfl (lv_at hl 1 rfl) ?_
  refine r_Desk_ordered hx hb hts (by decide +kernel) hown hK hG hLx hKx h4x (hts (.fieldLink RX2 30 "DotStores" "ordered" "[J") (by decide +kernel)) dX2_value_25 ?_
  refine lv_iload_n hx hb dX2_value_28 rfl (lv_at hl 4 rfl) ?_
  refine g_lald hx hb hK hG hLod hKod (xx) rfl (by rw [hnod]; omega) (by rw [hnod]; decide) dX2_value_29 ?_
  refine vx_ret ?_
  refine W.widen (k := 12) (n := 100) (by omega) (by omega) ?_
  exact W.lret (v := (r2 (ad 4) (xx))) hx hb hr (fun t9 h9 hW9 => ⟨⟨(r2 (ad 4) (xx)), (((m2, r2), r), xx), rfl, ⟨⟨hr6, rfl⟩, ⟨⟨r, hr6, rfl⟩, hk16⟩, ⟨hxx, rfl⟩, hm2, rfl, hO2, hP2⟩, hG.at h9⟩, hG.2.2.1.F h9⟩) hG.2.2.1.2.2 dX2_value_30
