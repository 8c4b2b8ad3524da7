set_option maxHeartbeats 4000000 in
set_option maxRecDepth 100000 in
/-- countOf -/
theorem k_countOf (l : Launch) (G : gG) (base : Nat) {L : List Nat} {K n : Nat → Nat} {rI : Nat → Nat → Int32} {rJ : Nat → Nat → Int64} {rQ : Nat → Nat → Option Nat} {fI : Nat → Nat → Int32} {fR : Nat → Nat → Option Nat} {bm : Nat → Nat} (hMd : isMd L K n fR bm) {b k q : Nat} (hLb : b ∈ L) (hKb : K b = 5) (hnb : n b = 3084) (hk : k < 257) (hq : q < 6) : Met l yX3_countOf wsX3_countOf ({ frames := 1, cells := 0, slots := 0, locals := 23 }) (va_Pc [.ref (bm 0), .ref b, .int (nI k), .int (nI q)] (g_Pr G base (L, K, n, rI, rJ, rQ, fI, fR))) (g_Qi G base (fun _ : Unit => (L, K, n, rI, rJ, rQ, fI, fR)) (fun x _ => x = nI (cntN (fun i => rb (mr (rJ b) k) (128 * q + i)) 100))) 0 0 (g_A base) := by
  have hMd0 := hMd
  obtain ⟨minj, mL0, mK0, ⟨mf2, mf3, mf4, mf5, mf6, mf7, mf8, mf9, mf10, mf11, mf13⟩, ⟨mL2, mK2, mn2⟩, ⟨mL3, mK3, mn3⟩, ⟨mL4, mK4, mn4⟩, ⟨mL5, mK5, mn5⟩, ⟨mL6, mK6, mn6⟩, ⟨mL7, mK7, mn7⟩, ⟨mL8, mK8, mn8⟩, ⟨mL9, mK9, mn9⟩, ⟨mL10, mK10, mn10⟩, ⟨mL11, mK11, mn11⟩, ⟨mL13, mK13, mn13⟩⟩ := hMd0
  refine Met.ofW (cc := cX3_countOf) (maxL := 6) (ret := (some .int)) (by decide) rfl ?_
  intro p e s m args below meth c s₁ B hml hv
  obtain ⟨rfl, hPr⟩ := hv
  have hx := B.exec
  have hb := B.bytes
  have hr := B.returns
  have hts := atoms_spec (ws := wsX3_countOf) B.pre
  have hown : s.vm.findClass RX3 = some m.cls := findClass_of_methodNamed B.named
  have hlocks := B.notSynchronized
  have hin : meth.name = "countOf" := (name_of_methodNamed B.named B.method).1
  have hK := hPr.2.2
  have hG := hPr.gw
  have hl := lv_entry ([.ref (bm 0), .ref b, .int (nI k), .int (nI q)]) (n := 6) (Nat.le_of_ble_eq_true rfl)
  rw [lg_entry_eq]
  generalize (lg_sl ([.ref (bm 0), .ref b, .int (nI k), .int (nI q)]) ++ List.replicate (6 - (lg_sl ([.ref (bm 0), .ref b, .int (nI k), .int (nI q)])).length) Slot.unset).toArray = ls at hl ⊢
  have hl : lv_has ls 6 [(0, .ref (bm 0)), (1, .ref b), (2, .int (nI k)), (3, .int (nI q))] := hl
  refine g_start hPr (fun H locs hG => ?_)
  refine lv_iconst (v := 0) hx hb dX3_countOf_0 (by decide) ?_
  refine lv_istore (lv' := [(4, .int 0), (0, .ref (bm 0)), (1, .ref b), (2, .int (nI k)), (3, .int (nI q))]) hx hb dX3_countOf_1 hl (by decide) rfl (fun ls hl => ?_)
  refine lv_iconst (v := 1) hx hb dX3_countOf_3 (by decide) ?_
  refine lv_istore (lv' := [(5, .int 1), (4, .int 0), (0, .ref (bm 0)), (1, .ref b), (2, .int (nI k)), (3, .int (nI q))]) hx hb dX3_countOf_4 hl (by decide) rfl (fun ls hl => ?_)
  obtain ⟨vv, evv⟩ : ∃ z : Nat, z = 0 := ⟨_, rfl⟩
  obtain ⟨cc, ecc⟩ : ∃ z : Nat, z = 0 := ⟨_, rfl⟩
  replace hl : lv_has ls 6 [(0, .ref (bm 0)), (1, .ref b), (2, .int (nI k)), (3, .int (nI q)), (4, .int (nI cc)), (5, .int (nI (vv + 1)))] := by subst evv ecc; exact (lv_sub hl [2, 3, 4, 5, 1, 0] rfl)
  have inv2 : vv ≤ 100 ∧ cc = cntN (fun i => rb (mr (rJ b) k) (128 * q + i)) vv := by
    subst evv ecc
    exact ⟨by omega, rfl⟩
  have hf : 100 < vv + 101 := by omega
  clear evv ecc
  generalize 101 = d2 at hf
  induction d2 generalizing vv cc H locs ls with
  | zero => exact absurd hf (by have := inv2.1; omega)
  | succ d2 ih2 =>
    refine lv_iload hx hb dX3_countOf_6 (lv_at hl 5 rfl) ?_
    refine lv_bipush (v := 100) hx hb dX3_countOf_8 (by decide) ?_
    refine lv_icmp_gt (tgt := 41) hx hb dX3_countOf_10 (by decide) (fun cg => ?_) (fun cg => ?_)
    · have hvv : vv = 100 := by
        have := (nI_ltI (a := 100) (b := vv + 1) (by decide) (by have := inv2.1; omega)).mp cg
        have := inv2.1
        omega
      subst hvv
      refine lv_iload hx hb dX3_countOf_41 (lv_at hl 4 rfl) ?_
      refine W.widen (k := 0) (n := 0) (by omega) (by omega) ?_
      exact W.iret (v := (nI cc)) hx hb hr (fun t9 h9 hW9 => ⟨⟨(nI cc), (), rfl, (by rw [inv2.2]), hG.at h9⟩, hG.2.2.1.F h9⟩) hG.2.2.1.2.2 dX3_countOf_43
    · have hvv : vv < 100 := by
        rcases Nat.lt_or_ge vv 100 with z | z
        · exact z
        · exact absurd ((nI_ltI (a := 100) (b := vv + 1) (by decide) (by have := inv2.1; omega)).mpr (by omega)) cg
      refine lv_aload_n hx hb dX3_countOf_13 rfl (lv_at hl 1 rfl) ?_
      refine lv_iload_n hx hb dX3_countOf_14 rfl (lv_at hl 2 rfl) ?_
      refine lv_iload_n hx hb dX3_countOf_15 rfl (lv_at hl 3 rfl) ?_
      refine lv_iload hx hb dX3_countOf_16 (lv_at hl 5 rfl) ?_
      refine g_calli (va_runS (As := [.ref b, .int (nI k), .int (nI q), .int (nI (vv + 1))]) (rest := []) ⟨hx, hb, hml, hown, hts⟩ (k_isSet l G base (k := k) (q := q) (pp := vv) hLb hKb hnb hk hq (by omega)) (cwS 4 hts gX3_countOf_X3_isSet rfl rfl rfl (by decide +kernel) ⟨(Nat.le_of_ble_eq_true rfl), (Nat.le_of_ble_eq_true rfl)⟩) (g_ps hK hG) rfl rfl hl.1 rfl (lv_room (Nat.le_of_ble_eq_true rfl)) dX3_countOf_18 ⟨(Nat.le_of_ble_eq_true rfl), (Nat.le_of_ble_eq_true rfl)⟩) hG (fun y1 _ H locs hp hG => ?_)
      subst hp
      refine lv_if_eq (tgt := 31) hx hb dX3_countOf_21 (by decide) (fun c2 => ?_) (fun c2 => ?_)
      · have c2 := bi_0.mp c2
        refine lv_iload hx hb dX3_countOf_31 (lv_at hl 4 rfl) ?_
        refine lv_istore (lv' := [(4, .int (nI cc)), (0, .ref (bm 0)), (1, .ref b), (2, .int (nI k)), (3, .int (nI q)), (5, .int (nI (vv + 1)))]) hx hb dX3_countOf_33 hl (by decide) rfl (fun ls hl => ?_)
        refine lv_iinc (v := (nI (vv + 1 + 1))) (lv' := [(5, .int (nI (vv + 1 + 1))), (4, .int (nI cc)), (0, .ref (bm 0)), (1, .ref b), (2, .int (nI k)), (3, .int (nI q))]) hx hb dX3_countOf_35 hl (k := 5) rfl (nI_1 (vv + 1)) (by decide) rfl (fun ls hl => ?_)
        refine lv_goto (tgt := 6) hx hb dX3_countOf_38 (by decide) ?_
        exact ih2 (vv := vv + 1) (cc := cc) (hl := (lv_sub hl [2, 3, 4, 5, 1, 0] rfl)) (hG := hG) (inv2 := ⟨by omega, by rw [cntN_s, if_neg (by rw [c2]; decide)]; exact inv2.2⟩) (hf := by omega)
      · have c2 := ts_nf (fun z => c2 (bi_0.mpr z))
        refine lv_iload hx hb dX3_countOf_24 (lv_at hl 4 rfl) ?_
        refine lv_iconst (v := 1) hx hb dX3_countOf_26 (by decide) ?_
        refine lv_iadd hx hb dX3_countOf_27 ?_
        refine lv_topi (fun z1 ez1 => ?_)
        obtain rfl : z1 = nI (cc + 1) := ez1.trans (nI_1 cc)
        refine lv_goto (tgt := 33) hx hb dX3_countOf_28 (by decide) ?_
        refine lv_istore (lv' := [(4, .int (nI (cc + 1))), (0, .ref (bm 0)), (1, .ref b), (2, .int (nI k)), (3, .int (nI q)), (5, .int (nI (vv + 1)))]) hx hb dX3_countOf_33 hl (by decide) rfl (fun ls hl => ?_)
        refine lv_iinc (v := (nI (vv + 1 + 1))) (lv' := [(5, .int (nI (vv + 1 + 1))), (4, .int (nI (cc + 1))), (0, .ref (bm 0)), (1, .ref b), (2, .int (nI k)), (3, .int (nI q))]) hx hb dX3_countOf_35 hl (k := 5) rfl (nI_1 (vv + 1)) (by decide) rfl (fun ls hl => ?_)
        refine lv_goto (tgt := 6) hx hb dX3_countOf_38 (by decide) ?_
        exact ih2 (vv := vv + 1) (cc := cc + 1) (hl := (lv_sub hl [2, 3, 4, 5, 1, 0] rfl)) (hG := hG) (inv2 := ⟨by omega, by rw [cntN_s, if_pos c2, ← inv2.2]⟩) (hf := by omega)
theorem okI3 {x : Int32} (h : okI x 3) : x = 0 ∨ x = 1 ∨ x = 2 := by
  obtain ⟨r, hr, rfl⟩ := h
  rcases (show r = 0 ∨ r = 1 ∨ r = 2 by omega) with q | q | q
  · subst q; exact Or.inl rfl
  · subst q; exact Or.inr (Or.inl rfl)
  · subst q; exact Or.inr (Or.inr rfl)
/-- what seen answers -/
def seeB (P : Nat → Bool) (wh : Int32) (m : Nat) : Prop := (wh = 2 ∧ m = grN P 100) ∨ (wh = 1 ∧ m = cntN P 100) ∨ (wh = 0 ∧ m ≤ 100 ∧ (∀ i, i < m → P i = true) ∧ (m < 100 → P m = false))
set_option maxHeartbeats 4000000 in
set_option maxRecDepth 100000 in
/-- seen -/
theorem k_seen (l : Launch) (G : gG) (base : Nat) {L : List Nat} {K n : Nat → Nat} {rI : Nat → Nat → Int32} {rJ : Nat → Nat → Int64} {rQ : Nat → Nat → Option Nat} {fI : Nat → Nat → Int32} {fR : Nat → Nat → Option Nat} {bm : Nat → Nat} {β : bT} (hM : RepM (L, K, n, rI, rJ, rQ, fI, fR) bm β) {v j wh : Int32} : Met l yX3_seen wsX3_seen ({ frames := 2, cells := 0, slots := 0, locals := 48 }) (va_Pc [.ref (bm 0), .int v, .int j, .int wh] (g_Pr G base (L, K, n, rI, rJ, rQ, fI, fR))) (g_Qi G base (fun u : (Nat → Nat → Int32) × Nat × Nat × Nat => (L, K, n, rI, rJ, rQ, u.1, fR)) (fun x u => ((u.1 (bm 0) 0 = 0 ∧ (u.2.1 < 6 ∧ v = nI u.2.1) ∧ (u.2.2.1 < 6 ∧ j = nI u.2.2.1) ∧ okI wh 3 ∧ x = nI u.2.2.2 ∧ seeB (fun i => b_S β u.2.1 (128 * u.2.2.1 + i)) wh u.2.2.2) ∨ (u.1 (bm 0) 0 = 1 ∧ ¬ (okI v 6 ∧ okI j 6 ∧ okI wh 3))) ∧ StpM (L, K, n, rI, rJ, rQ, fI, fR) bm (L, K, n, rI, rJ, rQ, u.1, fR) β)) 0 0 (g_A base) := by
  have hMd : isMd L K n fR bm := hM.1
  have hMd0 := hMd
  obtain ⟨minj, mL0, mK0, ⟨mf2, mf3, mf4, mf5, mf6, mf7, mf8, mf9, mf10, mf11, mf13⟩, ⟨mL2, mK2, mn2⟩, ⟨mL3, mK3, mn3⟩, ⟨mL4, mK4, mn4⟩, ⟨mL5, mK5, mn5⟩, ⟨mL6, mK6, mn6⟩, ⟨mL7, mK7, mn7⟩, ⟨mL8, mK8, mn8⟩, ⟨mL9, mK9, mn9⟩, ⟨mL10, mK10, mn10⟩, ⟨mL11, mK11, mn11⟩, ⟨mL13, mK13, mn13⟩⟩ := hMd0
  have hdl : fI (bm 0) 1 = nI (b_nd β) := hM.2.1.1
  have hnd : b_nd β ≤ 250 := hM.2.1.2
  refine Met.ofW (cc := cX3_seen) (maxL := 5) (ret := (some .int)) (by decide) rfl ?_
  intro p e s m args below meth c s₁ B hml hv
  obtain ⟨rfl, hPr⟩ := hv
  have hx := B.exec
  have hb := B.bytes
  have hr := B.returns
  have hts := atoms_spec (ws := wsX3_seen) B.pre
  have hown : s.vm.findClass RX3 = some m.cls := findClass_of_methodNamed B.named
  have hlocks := B.notSynchronized
  have hin : meth.name = "seen" := (name_of_methodNamed B.named B.method).1
  have hK := hPr.2.2
  have hG := hPr.gw
  have hl := lv_entry ([.ref (bm 0), .int v, .int j, .int wh]) (n := 5) (Nat.le_of_ble_eq_true rfl)
  rw [lg_entry_eq]
  generalize (lg_sl ([.ref (bm 0), .int v, .int j, .int wh]) ++ List.replicate (5 - (lg_sl ([.ref (bm 0), .int v, .int j, .int wh])).length) Slot.unset).toArray = ls at hl ⊢
  have hl : lv_has ls 5 [(0, .ref (bm 0)), (1, .int v), (2, .int j), (3, .int wh)] := hl
  refine g_start hPr (fun H locs hG => ?_)
  refine lv_aload_n hx hb dX3_seen_0 rfl (lv_at hl 0 rfl) ?_
  refine lv_aload_n hx hb dX3_seen_1 rfl (lv_at hl 0 rfl) ?_
  refine lv_iload_n hx hb dX3_seen_2 rfl (lv_at hl 1 rfl) ?_
  refine g_calli (va_runV (As := [.int v]) (rest := [.ref (bm 0)]) ⟨hx, hb, hml, hown, hts⟩ (k_isReplica l G base (v := v) (a := bm 0)) (cwV 1 hts gX3_seen_X3_isReplica rfl rfl rfl (by decide +kernel) ⟨(Nat.le_of_ble_eq_true rfl), (Nat.le_of_ble_eq_true rfl)⟩) (g_pv3 hK hG mL0 mK0) rfl rfl hl.1 rfl (lv_room (Nat.le_of_ble_eq_true rfl)) dX3_seen_3 ⟨(Nat.le_of_ble_eq_true rfl), (Nat.le_of_ble_eq_true rfl)⟩) hG (fun y1 b1 H locs hp hG => ?_)
  obtain ⟨e9, h1⟩ := hp
  subst e9
  refine lv_if_eq (tgt := 30) hx hb dX3_seen_6 (by decide) (fun c1 => ?_) (fun c1 => ?_)
  · have hno : ¬ (okI v 6 ∧ okI j 6 ∧ okI wh 3) := fun z => absurd ((bi_0.mp c1).symm.trans (h1.mpr z.1)) (by decide)
    refine lv_iconst (v := 0) hx hb dX3_seen_30 (by decide) ?_
    refine g_calli (va_runV (As := [.int 0]) (rest := []) ⟨hx, hb, hml, hown, hts⟩ (k_goes l G base hM (g := false)) (cwV 1 hts gX3_seen_X3_goes rfl rfl rfl (by decide +kernel) ⟨(Nat.le_of_ble_eq_true rfl), (Nat.le_of_ble_eq_true rfl)⟩) (g_pv3 hK hG mL0 mK0) rfl rfl hl.1 rfl (lv_room (Nat.le_of_ble_eq_true rfl)) dX3_seen_31 ⟨(Nat.le_of_ble_eq_true rfl), (Nat.le_of_ble_eq_true rfl)⟩) hG (fun y5 _ H locs hp hG => ?_)
    obtain ⟨f1, ef1⟩ : ∃ z, z = g_up fI (bm 0) 0 (bi (!false)) := ⟨_, rfl⟩
    replace hG : gw G base s.heap (L, K, n, rI, rJ, rQ, f1, fR) H locs := by rw [ef1]; exact hG
    have hT1 : StpM (L, K, n, rI, rJ, rQ, fI, fR) bm (L, K, n, rI, rJ, rQ, f1, fR) β := repM_F0 hM (by rw [ef1, g_up_i _ _ _ _ (by decide)]) (fun b hb => by rw [ef1, g_up_other _ _ _ hb])
    have hf1 : f1 (bm 0) 0 = 1 := by rw [ef1, g_up_at]; rfl
    subst hp
    refine lv_if_ne (tgt := 39) hx hb dX3_seen_34 (by decide) (fun c8 => ?_) (fun c8 => ?_)
    · exact absurd rfl c8
    · refine lv_iconst (v := 0) hx hb dX3_seen_37 (by decide) ?_
      refine W.widen (k := 0) (n := 0) (by omega) (by omega) ?_
      exact W.iret (v := 0) hx hb hr (fun t9 h9 hW9 => ⟨⟨0, (f1, 0, 0, 0), rfl, ⟨Or.inr ⟨hf1, hno⟩, hT1⟩, hG.at h9⟩, hG.2.2.1.F h9⟩) hG.2.2.1.2.2 dX3_seen_38
  · obtain ⟨q, hq, rfl⟩ := h1.mp (ts_nf (fun z => c1 (bi_0.mpr z)))
    refine lv_aload_n hx hb dX3_seen_9 rfl (lv_at hl 0 rfl) ?_
    refine lv_iload_n hx hb dX3_seen_10 rfl (lv_at hl 2 rfl) ?_
    refine g_calli (va_runV (As := [.int j]) (rest := [.ref (bm 0)]) ⟨hx, hb, hml, hown, hts⟩ (k_isReplica l G base (v := j) (a := bm 0)) (cwV 1 hts gX3_seen_X3_isReplica rfl rfl rfl (by decide +kernel) ⟨(Nat.le_of_ble_eq_true rfl), (Nat.le_of_ble_eq_true rfl)⟩) (g_pv3 hK hG mL0 mK0) rfl rfl hl.1 rfl (lv_room (Nat.le_of_ble_eq_true rfl)) dX3_seen_11 ⟨(Nat.le_of_ble_eq_true rfl), (Nat.le_of_ble_eq_true rfl)⟩) hG (fun y2 b2 H locs hp hG => ?_)
    obtain ⟨e9, h2⟩ := hp
    subst e9
    refine lv_if_eq (tgt := 30) hx hb dX3_seen_14 (by decide) (fun c2 => ?_) (fun c2 => ?_)
    · have hno : ¬ (okI (nI q) 6 ∧ okI j 6 ∧ okI wh 3) := fun z => absurd ((bi_0.mp c2).symm.trans (h2.mpr z.2.1)) (by decide)
      refine lv_iconst (v := 0) hx hb dX3_seen_30 (by decide) ?_
      refine g_calli (va_runV (As := [.int 0]) (rest := []) ⟨hx, hb, hml, hown, hts⟩ (k_goes l G base hM (g := false)) (cwV 1 hts gX3_seen_X3_goes rfl rfl rfl (by decide +kernel) ⟨(Nat.le_of_ble_eq_true rfl), (Nat.le_of_ble_eq_true rfl)⟩) (g_pv3 hK hG mL0 mK0) rfl rfl hl.1 rfl (lv_room (Nat.le_of_ble_eq_true rfl)) dX3_seen_31 ⟨(Nat.le_of_ble_eq_true rfl), (Nat.le_of_ble_eq_true rfl)⟩) hG (fun y5 _ H locs hp hG => ?_)
      obtain ⟨f1, ef1⟩ : ∃ z, z = g_up fI (bm 0) 0 (bi (!false)) := ⟨_, rfl⟩
      replace hG : gw G base s.heap (L, K, n, rI, rJ, rQ, f1, fR) H locs := by rw [ef1]; exact hG
      have hT1 : StpM (L, K, n, rI, rJ, rQ, fI, fR) bm (L, K, n, rI, rJ, rQ, f1, fR) β := repM_F0 hM (by rw [ef1, g_up_i _ _ _ _ (by decide)]) (fun b hb => by rw [ef1, g_up_other _ _ _ hb])
      have hf1 : f1 (bm 0) 0 = 1 := by rw [ef1, g_up_at]; rfl
      subst hp
      refine lv_if_ne (tgt := 39) hx hb dX3_seen_34 (by decide) (fun c8 => ?_) (fun c8 => ?_)
      · exact absurd rfl c8
      · refine lv_iconst (v := 0) hx hb dX3_seen_37 (by decide) ?_
        refine W.widen (k := 0) (n := 0) (by omega) (by omega) ?_
        exact W.iret (v := 0) hx hb hr (fun t9 h9 hW9 => ⟨⟨0, (f1, 0, 0, 0), rfl, ⟨Or.inr ⟨hf1, hno⟩, hT1⟩, hG.at h9⟩, hG.2.2.1.F h9⟩) hG.2.2.1.2.2 dX3_seen_38
    · obtain ⟨dd, hdd, rfl⟩ := h2.mp (ts_nf (fun z => c2 (bi_0.mpr z)))
      refine lv_iload_n hx hb dX3_seen_17 rfl (lv_at hl 3 rfl) ?_
      refine lv_iconst (v := 0) hx hb dX3_seen_18 (by decide) ?_
      refine lv_iconst (v := 2) hx hb dX3_seen_19 (by decide) ?_
      refine g_calli (va_runS (As := [.int wh, .int 0, .int 2]) (rest := [.ref (bm 0)]) ⟨hx, hb, hml, hown, hts⟩ (k_in l G base (v := wh) (lo := 0) (hi := 2)) (cwS 3 hts gX3_seen_X3_in rfl rfl rfl (by decide +kernel) ⟨(Nat.le_of_ble_eq_true rfl), (Nat.le_of_ble_eq_true rfl)⟩) (g_ps hK hG) rfl rfl hl.1 rfl (lv_room (Nat.le_of_ble_eq_true rfl)) dX3_seen_20 ⟨(Nat.le_of_ble_eq_true rfl), (Nat.le_of_ble_eq_true rfl)⟩) hG (fun y3 b3 H locs hp hG => ?_)
      obtain ⟨e9, h3⟩ := hp
      replace h3 := h3.trans (okI_le (v := wh) (N := 3) (by decide))
      subst e9
      refine lv_if_eq (tgt := 30) hx hb dX3_seen_23 (by decide) (fun c3 => ?_) (fun c3 => ?_)
      · have hno : ¬ (okI (nI q) 6 ∧ okI (nI dd) 6 ∧ okI wh 3) := fun z => absurd ((bi_0.mp c3).symm.trans (h3.mpr z.2.2)) (by decide)
        refine lv_iconst (v := 0) hx hb dX3_seen_30 (by decide) ?_
        refine g_calli (va_runV (As := [.int 0]) (rest := []) ⟨hx, hb, hml, hown, hts⟩ (k_goes l G base hM (g := false)) (cwV 1 hts gX3_seen_X3_goes rfl rfl rfl (by decide +kernel) ⟨(Nat.le_of_ble_eq_true rfl), (Nat.le_of_ble_eq_true rfl)⟩) (g_pv3 hK hG mL0 mK0) rfl rfl hl.1 rfl (lv_room (Nat.le_of_ble_eq_true rfl)) dX3_seen_31 ⟨(Nat.le_of_ble_eq_true rfl), (Nat.le_of_ble_eq_true rfl)⟩) hG (fun y5 _ H locs hp hG => ?_)
        obtain ⟨f1, ef1⟩ : ∃ z, z = g_up fI (bm 0) 0 (bi (!false)) := ⟨_, rfl⟩
        replace hG : gw G base s.heap (L, K, n, rI, rJ, rQ, f1, fR) H locs := by rw [ef1]; exact hG
        have hT1 : StpM (L, K, n, rI, rJ, rQ, fI, fR) bm (L, K, n, rI, rJ, rQ, f1, fR) β := repM_F0 hM (by rw [ef1, g_up_i _ _ _ _ (by decide)]) (fun b hb => by rw [ef1, g_up_other _ _ _ hb])
        have hf1 : f1 (bm 0) 0 = 1 := by rw [ef1, g_up_at]; rfl
        subst hp
        refine lv_if_ne (tgt := 39) hx hb dX3_seen_34 (by decide) (fun c8 => ?_) (fun c8 => ?_)
        · exact absurd rfl c8
        · refine lv_iconst (v := 0) hx hb dX3_seen_37 (by decide) ?_
          refine W.widen (k := 0) (n := 0) (by omega) (by omega) ?_
          exact W.iret (v := 0) hx hb hr (fun t9 h9 hW9 => ⟨⟨0, (f1, 0, 0, 0), rfl, ⟨Or.inr ⟨hf1, hno⟩, hT1⟩, hG.at h9⟩, hG.2.2.1.F h9⟩) hG.2.2.1.2.2 dX3_seen_38
      · have hwh := h3.mp (ts_nf (fun z => c3 (bi_0.mpr z)))
        refine lv_iconst (v := 1) hx hb dX3_seen_26 (by decide) ?_
        refine lv_goto (tgt := 31) hx hb dX3_seen_27 (by decide) ?_
        refine g_calli (va_runV (As := [.int 1]) (rest := []) ⟨hx, hb, hml, hown, hts⟩ (k_goes l G base hM (g := true)) (cwV 1 hts gX3_seen_X3_goes rfl rfl rfl (by decide +kernel) ⟨(Nat.le_of_ble_eq_true rfl), (Nat.le_of_ble_eq_true rfl)⟩) (g_pv3 hK hG mL0 mK0) rfl rfl hl.1 rfl (lv_room (Nat.le_of_ble_eq_true rfl)) dX3_seen_31 ⟨(Nat.le_of_ble_eq_true rfl), (Nat.le_of_ble_eq_true rfl)⟩) hG (fun y5 _ H locs hp hG => ?_)
        obtain ⟨f1, ef1⟩ : ∃ z, z = g_up fI (bm 0) 0 (bi (!true)) := ⟨_, rfl⟩
        replace hG : gw G base s.heap (L, K, n, rI, rJ, rQ, f1, fR) H locs := by rw [ef1]; exact hG
        have hT1 : StpM (L, K, n, rI, rJ, rQ, fI, fR) bm (L, K, n, rI, rJ, rQ, f1, fR) β := repM_F0 hM (by rw [ef1, g_up_i _ _ _ _ (by decide)]) (fun b hb => by rw [ef1, g_up_other _ _ _ hb])
        have hf1 : f1 (bm 0) 0 = 0 := by rw [ef1, g_up_at]; rfl
        subst hp
        refine lv_if_ne (tgt := 39) hx hb dX3_seen_34 (by decide) (fun c8 => ?_) (fun c8 => ?_)
        · refine lv_iload_n hx hb dX3_seen_39 rfl (lv_at hl 3 rfl) ?_
          refine lv_iconst (v := 2) hx hb dX3_seen_40 (by decide) ?_
          refine lv_icmp_ne (tgt := 51) hx hb dX3_seen_41 (by decide) (fun c4 => ?_) (fun c4 => ?_)
          · refine lv_iload_n hx hb dX3_seen_51 rfl (lv_at hl 3 rfl) ?_
            refine lv_iconst (v := 1) hx hb dX3_seen_52 (by decide) ?_
            refine lv_icmp_ne (tgt := 67) hx hb dX3_seen_53 (by decide) (fun c5 => ?_) (fun c5 => ?_)
            · refine lv_iconst (v := 0) hx hb dX3_seen_67 (by decide) ?_
              refine lv_istore (lv' := [(4, .int 0), (0, .ref (bm 0)), (1, .int (nI q)), (2, .int (nI dd)), (3, .int wh)]) hx hb dX3_seen_68 hl (by decide) rfl (fun ls hl => ?_)
              obtain ⟨w, ew⟩ : ∃ z : Nat, z = 0 := ⟨_, rfl⟩
              replace hl : lv_has ls 5 [(0, .ref (bm 0)), (1, .int (nI q)), (2, .int (nI dd)), (3, .int wh), (4, .int (nI w))] := by subst ew; exact (lv_sub hl [1, 2, 3, 4, 0] rfl)
              have inv : w ≤ 100 ∧ ∀ i, i < w → b_S β q (128 * dd + i) = true := by
                subst ew
                exact ⟨by omega, fun i hi => absurd hi (Nat.not_lt_zero i)⟩
              have hf : 100 < w + 101 := by omega
              clear ew
              generalize 101 = d at hf
              induction d generalizing w H locs ls with
              | zero => exact absurd hf (by have := inv.1; omega)
              | succ d ih =>
                refine lv_iload hx hb dX3_seen_70 (lv_at hl 4 rfl) ?_
                refine lv_bipush (v := 100) hx hb dX3_seen_72 (by decide) ?_
                refine lv_icmp_ge (tgt := 99) hx hb dX3_seen_74 (by decide) (fun c0 => ?_) (fun c0 => ?_)
                · have hw : w = 100 := by
                    rcases Nat.lt_or_ge w 100 with q | q
                    · exact absurd c0 (nI_ge q (by decide))
                    · omega
                  subst hw
                  refine lv_iload hx hb dX3_seen_99 (lv_at hl 4 rfl) ?_
                  refine W.widen (k := 0) (n := 0) (by omega) (by omega) ?_
                  exact W.iret (v := (nI 100)) hx hb hr (fun t9 h9 hW9 => ⟨⟨(nI 100), (f1, q, dd, 100), rfl, ⟨Or.inl ⟨hf1, ⟨hq, rfl⟩, ⟨hdd, rfl⟩, hwh, rfl, Or.inr (Or.inr ⟨(okI3 hwh).elim id (fun z => z.elim (fun y => absurd y c5) (fun y => absurd y c4)), inv.1, inv.2, fun z => absurd z (Nat.lt_irrefl _)⟩)⟩, hT1⟩, hG.at h9⟩, hG.2.2.1.F h9⟩) hG.2.2.1.2.2 dX3_seen_101
                · have hw : w < 100 := by
                    rcases Nat.lt_or_ge w 100 with q | q
                    · exact q
                    · exact absurd (nI_le (a := 100) q (by omega)) c0
                  refine lv_aload_n hx hb dX3_seen_77 rfl (lv_at hl 0 rfl) ?_
                  refine r_Model_seen hx hb hts (by decide +kernel) hown hK hG mL0 mK0 mf2 (hts (.fieldLink RX3 7 "DotStoresModel" "seen" "[J") (by decide +kernel)) dX3_seen_78 ?_
                  refine lv_iload_n hx hb dX3_seen_81 rfl (lv_at hl 1 rfl) ?_
                  refine lv_iload_n hx hb dX3_seen_82 rfl (lv_at hl 2 rfl) ?_
                  refine lv_iload hx hb dX3_seen_83 (lv_at hl 4 rfl) ?_
                  refine lv_iconst (v := 1) hx hb dX3_seen_85 (by decide) ?_
                  refine lv_iadd hx hb dX3_seen_86 ?_
                  refine lv_topi (fun z1 ez1 => ?_)
                  obtain rfl : z1 = nI (w + 1) := ez1.trans (nI_1 w)
                  refine g_calli (va_runS (As := [.ref (bm 2), .int (nI q), .int (nI dd), .int (nI (w + 1))]) (rest := []) ⟨hx, hb, hml, hown, hts⟩ (k_isSet l G base (k := q) (q := dd) (pp := w) mL2 mK2 mn2 (show q < 257 by omega) hdd (by omega)) (cwS 4 hts gX3_seen_X3_isSet rfl rfl rfl (by decide +kernel) ⟨(Nat.le_of_ble_eq_true rfl), (Nat.le_of_ble_eq_true rfl)⟩) (g_ps hK hG) rfl rfl hl.1 rfl (lv_room (Nat.le_of_ble_eq_true rfl)) dX3_seen_87 ⟨(Nat.le_of_ble_eq_true rfl), (Nat.le_of_ble_eq_true rfl)⟩) hG (fun y7 _ H locs hp hG => ?_)
                  have hp : y7 = bi (b_S β q (128 * dd + w)) := by
                    rw [hp]
                    exact congrArg bi (repM_S hM (show q < 257 by omega) hdd (by omega))
                  subst hp
                  refine lv_if_eq (tgt := 99) hx hb dX3_seen_90 (by decide) (fun c6 => ?_) (fun c6 => ?_)
                  · have c6 := bi_0.mp c6
                    refine lv_iload hx hb dX3_seen_99 (lv_at hl 4 rfl) ?_
                    refine W.widen (k := 0) (n := 0) (by omega) (by omega) ?_
                    exact W.iret (v := (nI w)) hx hb hr (fun t9 h9 hW9 => ⟨⟨(nI w), (f1, q, dd, w), rfl, ⟨Or.inl ⟨hf1, ⟨hq, rfl⟩, ⟨hdd, rfl⟩, hwh, rfl, Or.inr (Or.inr ⟨(okI3 hwh).elim id (fun z => z.elim (fun y => absurd y c5) (fun y => absurd y c4)), inv.1, inv.2, fun _ => c6⟩)⟩, hT1⟩, hG.at h9⟩, hG.2.2.1.F h9⟩) hG.2.2.1.2.2 dX3_seen_101
                  · have c6 := ts_nf (fun z => c6 (bi_0.mpr z))
                    refine lv_iinc (v := (nI (w + 1))) (lv' := [(4, .int (nI (w + 1))), (0, .ref (bm 0)), (1, .int (nI q)), (2, .int (nI dd)), (3, .int wh)]) hx hb dX3_seen_93 hl (k := 4) rfl (nI_1 w) (by decide) rfl (fun ls hl => ?_)
                    refine lv_goto (tgt := 70) hx hb dX3_seen_96 (by decide) ?_
                    exact ih (w := w + 1) (hl := (lv_sub hl [1, 2, 3, 4, 0] rfl)) (hG := hG) (inv := ⟨by omega, fun i hi => (Nat.lt_succ_iff_lt_or_eq.mp hi).elim (inv.2 i) (fun z => by rw [z]; exact c6)⟩) (hf := by omega)
            · have c5 : wh = 1 := (by first | exact c5 | exact Classical.not_not.mp c5)
              refine lv_aload_n hx hb dX3_seen_56 rfl (lv_at hl 0 rfl) ?_
              refine lv_aload_n hx hb dX3_seen_57 rfl (lv_at hl 0 rfl) ?_
              refine r_Model_seen hx hb hts (by decide +kernel) hown hK hG mL0 mK0 mf2 (hts (.fieldLink RX3 7 "DotStoresModel" "seen" "[J") (by decide +kernel)) dX3_seen_58 ?_
              refine lv_iload_n hx hb dX3_seen_61 rfl (lv_at hl 1 rfl) ?_
              refine lv_iload_n hx hb dX3_seen_62 rfl (lv_at hl 2 rfl) ?_
              refine g_calli (va_runV (As := [.ref (bm 2), .int (nI q), .int (nI dd)]) (rest := []) ⟨hx, hb, hml, hown, hts⟩ (k_countOf l G base hMd (k := q) (q := dd) mL2 mK2 mn2 (by omega) hdd) (cwV 3 hts gX3_seen_X3_countOf rfl rfl rfl (by decide +kernel) ⟨(Nat.le_of_ble_eq_true rfl), (Nat.le_of_ble_eq_true rfl)⟩) (g_pv3 hK hG mL0 mK0) rfl rfl hl.1 rfl (lv_room (Nat.le_of_ble_eq_true rfl)) dX3_seen_63 ⟨(Nat.le_of_ble_eq_true rfl), (Nat.le_of_ble_eq_true rfl)⟩) hG (fun y6 _ H locs hp hG => ?_)
              have hp : y6 = nI (cntN (fun i => b_S β q (128 * dd + i)) 100) := by
                rw [hp]
                exact congrArg nI (cntN_congr (fun i hi => repM_S hM (by omega) hdd (by omega)))
              subst hp
              refine W.widen (k := 0) (n := 0) (by omega) (by omega) ?_
              exact W.iret (v := (nI (cntN (fun i => b_S β q (128 * dd + i)) 100))) hx hb hr (fun t9 h9 hW9 => ⟨⟨(nI (cntN (fun i => b_S β q (128 * dd + i)) 100)), (f1, q, dd, cntN (fun i => b_S β q (128 * dd + i)) 100), rfl, ⟨Or.inl ⟨hf1, ⟨hq, rfl⟩, ⟨hdd, rfl⟩, hwh, rfl, Or.inr (Or.inl ⟨c5, rfl⟩)⟩, hT1⟩, hG.at h9⟩, hG.2.2.1.F h9⟩) hG.2.2.1.2.2 dX3_seen_66
          · have c4 : wh = 2 := (by first | exact c4 | exact Classical.not_not.mp c4)
            refine lv_aload_n hx hb dX3_seen_44 rfl (lv_at hl 0 rfl) ?_
            refine lv_iload_n hx hb dX3_seen_45 rfl (lv_at hl 1 rfl) ?_
            refine lv_iload_n hx hb dX3_seen_46 rfl (lv_at hl 2 rfl) ?_
            refine g_calli (va_runV (As := [.int (nI q), .int (nI dd)]) (rest := []) ⟨hx, hb, hml, hown, hts⟩ (k_greatest l G base hT1.1 (k := q) (q := dd) (by omega) hdd) (cwV 2 hts gX3_seen_X3_greatest rfl rfl rfl (by decide +kernel) ⟨(Nat.le_of_ble_eq_true rfl), (Nat.le_of_ble_eq_true rfl)⟩) (g_pv3 hK hG mL0 mK0) rfl rfl hl.1 rfl (lv_room (Nat.le_of_ble_eq_true rfl)) dX3_seen_47 ⟨(Nat.le_of_ble_eq_true rfl), (Nat.le_of_ble_eq_true rfl)⟩) hG (fun y6 _ H locs hp hG => ?_)
            subst hp
            refine W.widen (k := 0) (n := 0) (by omega) (by omega) ?_
            exact W.iret (v := (nI (grN (fun i => b_S β q (128 * dd + i)) 100))) hx hb hr (fun t9 h9 hW9 => ⟨⟨(nI (grN (fun i => b_S β q (128 * dd + i)) 100)), (f1, q, dd, grN (fun i => b_S β q (128 * dd + i)) 100), rfl, ⟨Or.inl ⟨hf1, ⟨hq, rfl⟩, ⟨hdd, rfl⟩, hwh, rfl, Or.inl ⟨c4, rfl⟩⟩, hT1⟩, hG.at h9⟩, hG.2.2.1.F h9⟩) hG.2.2.1.2.2 dX3_seen_50
        · exact absurd c8 (by decide)
/-- the state that size asks for -/
def szB (nd : Nat) (v : Int32) (k : Nat) : Prop := (∃ q, q < 6 ∧ v = nI q ∧ k = q) ∨ (v < -1 ∧ ∃ d, d < nd ∧ (-2) - v = nI d ∧ k = 6 + d)
theorem cntN_sl (B : Nat → Bool) (w : Nat) : cntN (fun f => B (slot f)) (100 * (w + 1)) = cntN (fun f => B (slot f)) (100 * w) + cntN (fun i => B (128 * w + i)) 100 := by
  rw [Nat.mul_add, Nat.mul_one, cntN_add]
  exact congrArg (cntN (fun f => B (slot f)) (100 * w) + ·) (cntN_congr (fun j hj => by rw [slot_at hj]))
set_option maxHeartbeats 4000000 in
set_option maxRecDepth 100000 in
/-- size -/
theorem k_size (l : Launch) (G : gG) (base : Nat) {L : List Nat} {K n : Nat → Nat} {rI : Nat → Nat → Int32} {rJ : Nat → Nat → Int64} {rQ : Nat → Nat → Option Nat} {fI : Nat → Nat → Int32} {fR : Nat → Nat → Option Nat} {bm : Nat → Nat} {β : bT} (hM : RepM (L, K, n, rI, rJ, rQ, fI, fR) bm β) {v wh : Int32} : Met l yX3_size wsX3_size ({ frames := 2, cells := 0, slots := 0, locals := 48 }) (va_Pc [.ref (bm 0), .int v, .int wh] (g_Pr G base (L, K, n, rI, rJ, rQ, fI, fR))) (g_Qi G base (fun u : (Nat → Nat → Int32) × Nat => (L, K, n, rI, rJ, rQ, u.1, fR)) (fun x u => ((u.1 (bm 0) 0 = 0 ∧ szB (b_nd β) v u.2 ∧ okI wh 2 ∧ x = nI (cntN (fun f => (if wh = 0 then b_L β u.2 else b_S β u.2) (slot f)) 600)) ∨ (u.1 (bm 0) 0 = 1 ∧ ¬ ((∃ k, szB (b_nd β) v k) ∧ okI wh 2))) ∧ StpM (L, K, n, rI, rJ, rQ, fI, fR) bm (L, K, n, rI, rJ, rQ, u.1, fR) β)) 0 0 (g_A base) := by
  have hMd : isMd L K n fR bm := hM.1
  have hMd0 := hMd
  obtain ⟨minj, mL0, mK0, ⟨mf2, mf3, mf4, mf5, mf6, mf7, mf8, mf9, mf10, mf11, mf13⟩, ⟨mL2, mK2, mn2⟩, ⟨mL3, mK3, mn3⟩, ⟨mL4, mK4, mn4⟩, ⟨mL5, mK5, mn5⟩, ⟨mL6, mK6, mn6⟩, ⟨mL7, mK7, mn7⟩, ⟨mL8, mK8, mn8⟩, ⟨mL9, mK9, mn9⟩, ⟨mL10, mK10, mn10⟩, ⟨mL11, mK11, mn11⟩, ⟨mL13, mK13, mn13⟩⟩ := hMd0
  have hdl : fI (bm 0) 1 = nI (b_nd β) := hM.2.1.1
  have hnd : b_nd β ≤ 250 := hM.2.1.2
  refine Met.ofW (cc := cX3_size) (maxL := 8) (ret := (some .int)) (by decide) rfl ?_
  intro p e s m args below meth c s₁ B hml hv
  obtain ⟨rfl, hPr⟩ := hv
  have hx := B.exec
  have hb := B.bytes
  have hr := B.returns
  have hts := atoms_spec (ws := wsX3_size) B.pre
  have hown : s.vm.findClass RX3 = some m.cls := findClass_of_methodNamed B.named
  have hlocks := B.notSynchronized
  have hin : meth.name = "size" := (name_of_methodNamed B.named B.method).1
  have hK := hPr.2.2
  have hG := hPr.gw
  have hl := lv_entry ([.ref (bm 0), .int v, .int wh]) (n := 8) (Nat.le_of_ble_eq_true rfl)
  rw [lg_entry_eq]
  generalize (lg_sl ([.ref (bm 0), .int v, .int wh]) ++ List.replicate (8 - (lg_sl ([.ref (bm 0), .int v, .int wh])).length) Slot.unset).toArray = ls at hl ⊢
  have hl : lv_has ls 8 [(0, .ref (bm 0)), (1, .int v), (2, .int wh)] := hl
  refine g_start hPr (fun H locs hG => ?_)
  refine lv_bipush (v := (-2)) hx hb dX3_size_0 (by decide) ?_
  refine lv_iload_n hx hb dX3_size_2 rfl (lv_at hl 1 rfl) ?_
  refine lv_isub hx hb dX3_size_3 ?_
  refine lv_istore_n (lv' := [(3, .int ((-2) - v)), (0, .ref (bm 0)), (1, .int v), (2, .int wh)]) hx hb dX3_size_4 rfl hl (by decide) rfl (fun ls hl => ?_)
  refine lv_aload_n hx hb dX3_size_5 rfl (lv_at hl 1 rfl) ?_
  refine lv_iload_n hx hb dX3_size_6 rfl (lv_at hl 2 rfl) ?_
  refine g_calli (va_runV (As := [.int v]) (rest := []) ⟨hx, hb, hml, hown, hts⟩ (k_isReplica l G base (v := v) (a := bm 0)) (cwV 1 hts gX3_size_X3_isReplica rfl rfl rfl (by decide +kernel) ⟨(Nat.le_of_ble_eq_true rfl), (Nat.le_of_ble_eq_true rfl)⟩) (g_pv3 hK hG mL0 mK0) rfl rfl hl.1 rfl (lv_room (Nat.le_of_ble_eq_true rfl)) dX3_size_7 ⟨(Nat.le_of_ble_eq_true rfl), (Nat.le_of_ble_eq_true rfl)⟩) hG (fun y1 b1 H locs hp hG => ?_)
  obtain ⟨e9, h1⟩ := hp
  subst e9
  refine lv_if_ne (tgt := 30) hx hb dX3_size_10 (by decide) (fun c1 => ?_) (fun c1 => ?_)
  · obtain ⟨q, hq, rfl⟩ := h1.mp (ts_nf (fun z => c1 (bi_0.mpr z)))
    refine lv_iconst (v := 1) hx hb dX3_size_30 (by decide) ?_
    refine lv_goto (tgt := 35) hx hb dX3_size_31 (by decide) ?_
    refine lv_istore (lv' := [(4, .int 1), (3, .int ((-2) - nI q)), (0, .ref (bm 0)), (1, .int (nI q)), (2, .int wh)]) hx hb dX3_size_35 hl (by decide) rfl (fun ls hl => ?_)
    refine lv_aload_n hx hb dX3_size_37 rfl (lv_at hl 2 rfl) ?_
    refine lv_iload hx hb dX3_size_38 (lv_at hl 0 rfl) ?_
    refine lv_if_eq (tgt := 56) hx hb dX3_size_40 (by decide) (fun c9 => ?_) (fun c9 => ?_)
    · exact absurd c9 (by decide)
    · refine lv_iload_n hx hb dX3_size_43 rfl (lv_at hl 4 rfl) ?_
      refine lv_iconst (v := 0) hx hb dX3_size_44 (by decide) ?_
      refine lv_iconst (v := 1) hx hb dX3_size_45 (by decide) ?_
      refine g_calli (va_runS (As := [.int wh, .int 0, .int 1]) (rest := [.ref (bm 0)]) ⟨hx, hb, hml, hown, hts⟩ (k_in l G base (v := wh) (lo := 0) (hi := 1)) (cwS 3 hts gX3_size_X3_in rfl rfl rfl (by decide +kernel) ⟨(Nat.le_of_ble_eq_true rfl), (Nat.le_of_ble_eq_true rfl)⟩) (g_ps hK hG) rfl rfl hl.1 rfl (lv_room (Nat.le_of_ble_eq_true rfl)) dX3_size_46 ⟨(Nat.le_of_ble_eq_true rfl), (Nat.le_of_ble_eq_true rfl)⟩) hG (fun y3 b3 H locs hp hG => ?_)
      obtain ⟨e9, h3⟩ := hp
      replace h3 := h3.trans (okI_le (v := wh) (N := 2) (by decide))
      subst e9
      refine lv_if_eq (tgt := 56) hx hb dX3_size_49 (by decide) (fun c5 => ?_) (fun c5 => ?_)
      · have hno : ¬ ((∃ k, szB (b_nd β) (nI q) k) ∧ okI wh 2) := fun z => absurd ((bi_0.mp c5).symm.trans (h3.mpr z.2)) (by decide)
        refine lv_iconst (v := 0) hx hb dX3_size_56 (by decide) ?_
        refine g_calli (va_runV (As := [.int 0]) (rest := []) ⟨hx, hb, hml, hown, hts⟩ (k_goes l G base hM (g := false)) (cwV 1 hts gX3_size_X3_goes rfl rfl rfl (by decide +kernel) ⟨(Nat.le_of_ble_eq_true rfl), (Nat.le_of_ble_eq_true rfl)⟩) (g_pv3 hK hG mL0 mK0) rfl rfl hl.1 rfl (lv_room (Nat.le_of_ble_eq_true rfl)) dX3_size_57 ⟨(Nat.le_of_ble_eq_true rfl), (Nat.le_of_ble_eq_true rfl)⟩) hG (fun y5 _ H locs hp hG => ?_)
        obtain ⟨f1, ef1⟩ : ∃ z, z = g_up fI (bm 0) 0 (bi (!false)) := ⟨_, rfl⟩
        replace hG : gw G base s.heap (L, K, n, rI, rJ, rQ, f1, fR) H locs := by rw [ef1]; exact hG
        have hT1 : StpM (L, K, n, rI, rJ, rQ, fI, fR) bm (L, K, n, rI, rJ, rQ, f1, fR) β := repM_F0 hM (by rw [ef1, g_up_i _ _ _ _ (by decide)]) (fun b hb => by rw [ef1, g_up_other _ _ _ hb])
        have hf1 : f1 (bm 0) 0 = 1 := by rw [ef1, g_up_at]; rfl
        subst hp
        refine lv_if_ne (tgt := 65) hx hb dX3_size_60 (by decide) (fun c8 => ?_) (fun c8 => ?_)
        · exact absurd rfl c8
        · refine lv_iconst (v := 0) hx hb dX3_size_63 (by decide) ?_
          refine W.widen (k := 0) (n := 0) (by omega) (by omega) ?_
          exact W.iret (v := 0) hx hb hr (fun t9 h9 hW9 => ⟨⟨0, (f1, 0), rfl, ⟨Or.inr ⟨hf1, hno⟩, hT1⟩, hG.at h9⟩, hG.2.2.1.F h9⟩) hG.2.2.1.2.2 dX3_size_64
      · have hwh := h3.mp (ts_nf (fun z => c5 (bi_0.mpr z)))
        refine lv_iconst (v := 1) hx hb dX3_size_52 (by decide) ?_
        refine lv_goto (tgt := 57) hx hb dX3_size_53 (by decide) ?_
        refine g_calli (va_runV (As := [.int 1]) (rest := []) ⟨hx, hb, hml, hown, hts⟩ (k_goes l G base hM (g := true)) (cwV 1 hts gX3_size_X3_goes rfl rfl rfl (by decide +kernel) ⟨(Nat.le_of_ble_eq_true rfl), (Nat.le_of_ble_eq_true rfl)⟩) (g_pv3 hK hG mL0 mK0) rfl rfl hl.1 rfl (lv_room (Nat.le_of_ble_eq_true rfl)) dX3_size_57 ⟨(Nat.le_of_ble_eq_true rfl), (Nat.le_of_ble_eq_true rfl)⟩) hG (fun y5 _ H locs hp hG => ?_)
        obtain ⟨f1, ef1⟩ : ∃ z, z = g_up fI (bm 0) 0 (bi (!true)) := ⟨_, rfl⟩
        replace hG : gw G base s.heap (L, K, n, rI, rJ, rQ, f1, fR) H locs := by rw [ef1]; exact hG
        have hT1 : StpM (L, K, n, rI, rJ, rQ, fI, fR) bm (L, K, n, rI, rJ, rQ, f1, fR) β := repM_F0 hM (by rw [ef1, g_up_i _ _ _ _ (by decide)]) (fun b hb => by rw [ef1, g_up_other _ _ _ hb])
        have hf1 : f1 (bm 0) 0 = 0 := by rw [ef1, g_up_at]; rfl
        subst hp
        refine lv_if_ne (tgt := 65) hx hb dX3_size_60 (by decide) (fun c8 => ?_) (fun c8 => ?_)
        · refine lv_iload_n hx hb dX3_size_65 rfl (lv_at hl 3 rfl) ?_
          refine lv_if_lt (tgt := 73) hx hb dX3_size_66 (by decide) (fun c6 => ?_) (fun c6 => ?_)
          · exact absurd c6 (nI_pos (by omega))
          · refine lv_iload_n hx hb dX3_size_69 rfl (lv_at hl 3 rfl) ?_
            refine lv_goto (tgt := 77) hx hb dX3_size_70 (by decide) ?_
            have hsz : szB (b_nd β) (nI q) q := Or.inl ⟨q, hq, rfl, rfl⟩
            refine lv_istore (lv' := [(5, .int (nI q)), (4, .int 1), (3, .int ((-2) - nI q)), (0, .ref (bm 0)), (1, .int (nI q)), (2, .int wh)]) hx hb dX3_size_77 hl (by decide) rfl (fun ls hl => ?_)
            refine lv_iconst (v := 0) hx hb dX3_size_79 (by decide) ?_
            refine lv_istore (lv' := [(6, .int 0), (5, .int (nI q)), (4, .int 1), (3, .int ((-2) - nI q)), (0, .ref (bm 0)), (1, .int (nI q)), (2, .int wh)]) hx hb dX3_size_80 hl (by decide) rfl (fun ls hl => ?_)
            refine lv_iconst (v := 0) hx hb dX3_size_82 (by decide) ?_
            refine lv_istore (lv' := [(7, .int 0), (6, .int 0), (5, .int (nI q)), (4, .int 1), (3, .int ((-2) - nI q)), (0, .ref (bm 0)), (1, .int (nI q)), (2, .int wh)]) hx hb dX3_size_83 hl (by decide) rfl (fun ls hl => ?_)
            obtain ⟨w, ew⟩ : ∃ z : Nat, z = 0 := ⟨_, rfl⟩
            obtain ⟨cc, ecc⟩ : ∃ z : Nat, z = 0 := ⟨_, rfl⟩
            obtain ⟨kk, ekk⟩ : ∃ z : Nat, z = q := ⟨_, rfl⟩
            replace hl : lv_has ls 8 [(0, .ref (bm 0)), (2, .int wh), (5, .int (nI kk)), (6, .int (nI cc)), (7, .int (nI w))] := by subst ew ecc ekk; exact (lv_sub hl [5, 7, 2, 1, 0] rfl)
            have inv : w ≤ 6 ∧ cc = cntN (fun f => (if wh = 0 then b_L β kk else b_S β kk) (slot f)) (100 * w) ∧ kk < 257 ∧ szB (b_nd β) (nI q) kk := by
              subst ew ecc ekk
              exact ⟨by omega, rfl, by omega, hsz⟩
            have hf : 6 < w + 7 := by omega
            clear ew ecc ekk
            generalize 7 = d at hf
            induction d generalizing w cc kk H locs ls with
            | zero => exact absurd hf (by have := inv.1; omega)
            | succ d ih =>
              refine lv_iload hx hb dX3_size_85 (lv_at hl 4 rfl) ?_
              refine lv_bipush (v := 6) hx hb dX3_size_87 (by decide) ?_
              refine lv_icmp_ge (tgt := 126) hx hb dX3_size_89 (by decide) (fun c0 => ?_) (fun c0 => ?_)
              · have hw : w = 6 := by
                  rcases Nat.lt_or_ge w 6 with q | q
                  · exact absurd c0 (nI_ge q (by decide))
                  · omega
                subst hw
                refine lv_iload hx hb dX3_size_126 (lv_at hl 3 rfl) ?_
                refine W.widen (k := 0) (n := 0) (by omega) (by omega) ?_
                exact W.iret (v := (nI cc)) hx hb hr (fun t9 h9 hW9 => ⟨⟨(nI cc), (f1, kk), rfl, ⟨Or.inl ⟨hf1, inv.2.2.2, hwh, by rw [inv.2.1]⟩, hT1⟩, hG.at h9⟩, hG.2.2.1.F h9⟩) hG.2.2.1.2.2 dX3_size_128
              · have hw : w < 6 := by
                  rcases Nat.lt_or_ge w 6 with q | q
                  · exact q
                  · exact absurd (nI_le (a := 6) q (by omega)) c0
                refine lv_iload hx hb dX3_size_92 (lv_at hl 3 rfl) ?_
                refine lv_aload_n hx hb dX3_size_94 rfl (lv_at hl 0 rfl) ?_
                refine lv_iload_n hx hb dX3_size_95 rfl (lv_at hl 1 rfl) ?_
                refine lv_if_ne (tgt := 106) hx hb dX3_size_96 (by decide) (fun c7 => ?_) (fun c7 => ?_)
                · refine lv_aload_n hx hb dX3_size_106 rfl (lv_at hl 0 rfl) ?_
                  refine r_Model_seen hx hb hts (by decide +kernel) hown hK hG mL0 mK0 mf2 (hts (.fieldLink RX3 7 "DotStoresModel" "seen" "[J") (by decide +kernel)) dX3_size_107 ?_
                  refine lv_iload hx hb dX3_size_110 (lv_at hl 2 rfl) ?_
                  refine lv_iload hx hb dX3_size_112 (lv_at hl 4 rfl) ?_
                  refine g_calli (va_runV (As := [.ref (bm 2), .int (nI kk), .int (nI w)]) (rest := [.int (nI cc)]) ⟨hx, hb, hml, hown, hts⟩ (k_countOf l G base hMd (k := kk) (q := w) mL2 mK2 mn2 inv.2.2.1 (by omega)) (cwV 3 hts gX3_size_X3_countOf rfl rfl rfl (by decide +kernel) ⟨(Nat.le_of_ble_eq_true rfl), (Nat.le_of_ble_eq_true rfl)⟩) (g_pv3 hK hG mL0 mK0) rfl rfl hl.1 rfl (lv_room (Nat.le_of_ble_eq_true rfl)) dX3_size_114 ⟨(Nat.le_of_ble_eq_true rfl), (Nat.le_of_ble_eq_true rfl)⟩) hG (fun y7 _ H locs hp hG => ?_)
                  have hp : y7 = nI (cntN (fun i => b_S β kk (128 * w + i)) 100) := by
                    rw [hp]
                    exact congrArg nI (cntN_congr (fun i hi => repM_S hM inv.2.2.1 (by omega) (by omega)))
                  subst hp
                  refine lv_iadd hx hb dX3_size_117 ?_
                  refine lv_topi (fun z1 ez1 => ?_)
                  obtain rfl : z1 = nI (cc + cntN (fun i => b_S β kk (128 * w + i)) 100) := ez1.trans (nI_add _ _)
                  refine lv_istore (lv' := [(6, .int (nI (cc + cntN (fun i => b_S β kk (128 * w + i)) 100))), (0, .ref (bm 0)), (2, .int wh), (5, .int (nI kk)), (7, .int (nI w))]) hx hb dX3_size_118 hl (by decide) rfl (fun ls hl => ?_)
                  refine lv_iinc (v := (nI (w + 1))) (lv' := [(7, .int (nI (w + 1))), (6, .int (nI (cc + cntN (fun i => b_S β kk (128 * w + i)) 100))), (0, .ref (bm 0)), (2, .int wh), (5, .int (nI kk))]) hx hb dX3_size_120 hl (k := 4) rfl (nI_1 w) (by decide) rfl (fun ls hl => ?_)
                  refine lv_goto (tgt := 85) hx hb dX3_size_123 (by decide) ?_
                  exact ih (w := w + 1) (kk := kk) (hl := (lv_sub hl [2, 3, 4, 1, 0] rfl)) (hG := hG) (inv := ⟨by omega, by rw [cntN_sl (if wh = 0 then b_L β kk else b_S β kk) w, ← inv.2.1, if_neg c7], inv.2.2⟩) (hf := by omega)
                · have c7 : wh = 0 := (by first | exact c7 | exact Classical.not_not.mp c7)
                  refine lv_aload_n hx hb dX3_size_99 rfl (lv_at hl 0 rfl) ?_
                  refine r_Model_live hx hb hts (by decide +kernel) hown hK hG mL0 mK0 mf3 (hts (.fieldLink RX3 13 "DotStoresModel" "live" "[J") (by decide +kernel)) dX3_size_100 ?_
                  refine lv_goto (tgt := 110) hx hb dX3_size_103 (by decide) ?_
                  refine lv_iload hx hb dX3_size_110 (lv_at hl 2 rfl) ?_
                  refine lv_iload hx hb dX3_size_112 (lv_at hl 4 rfl) ?_
                  refine g_calli (va_runV (As := [.ref (bm 3), .int (nI kk), .int (nI w)]) (rest := [.int (nI cc)]) ⟨hx, hb, hml, hown, hts⟩ (k_countOf l G base hMd (k := kk) (q := w) mL3 mK3 mn3 inv.2.2.1 (by omega)) (cwV 3 hts gX3_size_X3_countOf rfl rfl rfl (by decide +kernel) ⟨(Nat.le_of_ble_eq_true rfl), (Nat.le_of_ble_eq_true rfl)⟩) (g_pv3 hK hG mL0 mK0) rfl rfl hl.1 rfl (lv_room (Nat.le_of_ble_eq_true rfl)) dX3_size_114 ⟨(Nat.le_of_ble_eq_true rfl), (Nat.le_of_ble_eq_true rfl)⟩) hG (fun y7 _ H locs hp hG => ?_)
                  have hp : y7 = nI (cntN (fun i => b_L β kk (128 * w + i)) 100) := by
                    rw [hp]
                    exact congrArg nI (cntN_congr (fun i hi => repM_L hM inv.2.2.1 (by omega) (by omega)))
                  subst hp
                  refine lv_iadd hx hb dX3_size_117 ?_
                  refine lv_topi (fun z2 ez2 => ?_)
                  obtain rfl : z2 = nI (cc + cntN (fun i => b_L β kk (128 * w + i)) 100) := ez2.trans (nI_add _ _)
                  refine lv_istore (lv' := [(6, .int (nI (cc + cntN (fun i => b_L β kk (128 * w + i)) 100))), (0, .ref (bm 0)), (2, .int wh), (5, .int (nI kk)), (7, .int (nI w))]) hx hb dX3_size_118 hl (by decide) rfl (fun ls hl => ?_)
                  refine lv_iinc (v := (nI (w + 1))) (lv' := [(7, .int (nI (w + 1))), (6, .int (nI (cc + cntN (fun i => b_L β kk (128 * w + i)) 100))), (0, .ref (bm 0)), (2, .int wh), (5, .int (nI kk))]) hx hb dX3_size_120 hl (k := 4) rfl (nI_1 w) (by decide) rfl (fun ls hl => ?_)
                  refine lv_goto (tgt := 85) hx hb dX3_size_123 (by decide) ?_
                  exact ih (w := w + 1) (kk := kk) (hl := (lv_sub hl [2, 3, 4, 1, 0] rfl)) (hG := hG) (inv := ⟨by omega, by rw [cntN_sl (if wh = 0 then b_L β kk else b_S β kk) w, ← inv.2.1, if_pos c7], inv.2.2⟩) (hf := by omega)
        · exact absurd c8 (by decide)
  · have hn1 : ¬ okI v 6 := fun z => absurd ((bi_0.mp (by first | exact c1 | exact Classical.not_not.mp c1)).symm.trans (h1.mpr z)) (by decide)
    refine lv_iload_n hx hb dX3_size_13 rfl (lv_at hl 2 rfl) ?_
    refine lv_iconst (v := (-1)) hx hb dX3_size_14 (by decide) ?_
    refine lv_icmp_ge (tgt := 34) hx hb dX3_size_15 (by decide) (fun c2 => ?_) (fun c2 => ?_)
    · have hno : ¬ ((∃ k, szB (b_nd β) v k) ∧ okI wh 2) := fun z => z.1.elim (fun k y => y.elim (fun x => by obtain ⟨q, x1, x2, -⟩ := x; exact hn1 ⟨q, x1, x2⟩) (fun x => Int32.not_lt.mpr c2 x.1))
      refine lv_iconst (v := 0) hx hb dX3_size_34 (by decide) ?_
      refine lv_istore (lv' := [(4, .int 0), (3, .int ((-2) - v)), (0, .ref (bm 0)), (1, .int v), (2, .int wh)]) hx hb dX3_size_35 hl (by decide) rfl (fun ls hl => ?_)
      refine lv_aload_n hx hb dX3_size_37 rfl (lv_at hl 2 rfl) ?_
      refine lv_iload hx hb dX3_size_38 (lv_at hl 0 rfl) ?_
      refine lv_if_eq (tgt := 56) hx hb dX3_size_40 (by decide) (fun c9 => ?_) (fun c9 => ?_)
      · refine lv_iconst (v := 0) hx hb dX3_size_56 (by decide) ?_
        refine g_calli (va_runV (As := [.int 0]) (rest := []) ⟨hx, hb, hml, hown, hts⟩ (k_goes l G base hM (g := false)) (cwV 1 hts gX3_size_X3_goes rfl rfl rfl (by decide +kernel) ⟨(Nat.le_of_ble_eq_true rfl), (Nat.le_of_ble_eq_true rfl)⟩) (g_pv3 hK hG mL0 mK0) rfl rfl hl.1 rfl (lv_room (Nat.le_of_ble_eq_true rfl)) dX3_size_57 ⟨(Nat.le_of_ble_eq_true rfl), (Nat.le_of_ble_eq_true rfl)⟩) hG (fun y5 _ H locs hp hG => ?_)
        obtain ⟨f1, ef1⟩ : ∃ z, z = g_up fI (bm 0) 0 (bi (!false)) := ⟨_, rfl⟩
        replace hG : gw G base s.heap (L, K, n, rI, rJ, rQ, f1, fR) H locs := by rw [ef1]; exact hG
        have hT1 : StpM (L, K, n, rI, rJ, rQ, fI, fR) bm (L, K, n, rI, rJ, rQ, f1, fR) β := repM_F0 hM (by rw [ef1, g_up_i _ _ _ _ (by decide)]) (fun b hb => by rw [ef1, g_up_other _ _ _ hb])
        have hf1 : f1 (bm 0) 0 = 1 := by rw [ef1, g_up_at]; rfl
        subst hp
        refine lv_if_ne (tgt := 65) hx hb dX3_size_60 (by decide) (fun c8 => ?_) (fun c8 => ?_)
        · exact absurd rfl c8
        · refine lv_iconst (v := 0) hx hb dX3_size_63 (by decide) ?_
          refine W.widen (k := 0) (n := 0) (by omega) (by omega) ?_
          exact W.iret (v := 0) hx hb hr (fun t9 h9 hW9 => ⟨⟨0, (f1, 0), rfl, ⟨Or.inr ⟨hf1, hno⟩, hT1⟩, hG.at h9⟩, hG.2.2.1.F h9⟩) hG.2.2.1.2.2 dX3_size_64
      · exact absurd rfl c9
    · replace c2 : v < -1 := Int32.not_le.mp c2
      refine lv_iload_n hx hb dX3_size_18 rfl (lv_at hl 0 rfl) ?_
      refine lv_if_lt (tgt := 34) hx hb dX3_size_19 (by decide) (fun c3 => ?_) (fun c3 => ?_)
      · have hno : ¬ ((∃ k, szB (b_nd β) v k) ∧ okI wh 2) := fun z => z.1.elim (fun k y => y.elim (fun x => by obtain ⟨q, x1, x2, -⟩ := x; exact hn1 ⟨q, x1, x2⟩) (fun x => by obtain ⟨d, x1, x2, -⟩ := x.2; rw [x2] at c3; exact nI_pos (by omega) c3))
        refine lv_iconst (v := 0) hx hb dX3_size_34 (by decide) ?_
        refine lv_istore (lv' := [(4, .int 0), (3, .int ((-2) - v)), (0, .ref (bm 0)), (1, .int v), (2, .int wh)]) hx hb dX3_size_35 hl (by decide) rfl (fun ls hl => ?_)
        refine lv_aload_n hx hb dX3_size_37 rfl (lv_at hl 2 rfl) ?_
        refine lv_iload hx hb dX3_size_38 (lv_at hl 0 rfl) ?_
        refine lv_if_eq (tgt := 56) hx hb dX3_size_40 (by decide) (fun c9 => ?_) (fun c9 => ?_)
        · refine lv_iconst (v := 0) hx hb dX3_size_56 (by decide) ?_
          refine g_calli (va_runV (As := [.int 0]) (rest := []) ⟨hx, hb, hml, hown, hts⟩ (k_goes l G base hM (g := false)) (cwV 1 hts gX3_size_X3_goes rfl rfl rfl (by decide +kernel) ⟨(Nat.le_of_ble_eq_true rfl), (Nat.le_of_ble_eq_true rfl)⟩) (g_pv3 hK hG mL0 mK0) rfl rfl hl.1 rfl (lv_room (Nat.le_of_ble_eq_true rfl)) dX3_size_57 ⟨(Nat.le_of_ble_eq_true rfl), (Nat.le_of_ble_eq_true rfl)⟩) hG (fun y5 _ H locs hp hG => ?_)
          obtain ⟨f1, ef1⟩ : ∃ z, z = g_up fI (bm 0) 0 (bi (!false)) := ⟨_, rfl⟩
          replace hG : gw G base s.heap (L, K, n, rI, rJ, rQ, f1, fR) H locs := by rw [ef1]; exact hG
          have hT1 : StpM (L, K, n, rI, rJ, rQ, fI, fR) bm (L, K, n, rI, rJ, rQ, f1, fR) β := repM_F0 hM (by rw [ef1, g_up_i _ _ _ _ (by decide)]) (fun b hb => by rw [ef1, g_up_other _ _ _ hb])
          have hf1 : f1 (bm 0) 0 = 1 := by rw [ef1, g_up_at]; rfl
          subst hp
          refine lv_if_ne (tgt := 65) hx hb dX3_size_60 (by decide) (fun c8 => ?_) (fun c8 => ?_)
          · exact absurd rfl c8
          · refine lv_iconst (v := 0) hx hb dX3_size_63 (by decide) ?_
            refine W.widen (k := 0) (n := 0) (by omega) (by omega) ?_
            exact W.iret (v := 0) hx hb hr (fun t9 h9 hW9 => ⟨⟨0, (f1, 0), rfl, ⟨Or.inr ⟨hf1, hno⟩, hT1⟩, hG.at h9⟩, hG.2.2.1.F h9⟩) hG.2.2.1.2.2 dX3_size_64
        · exact absurd rfl c9
      · refine lv_aload_n hx hb dX3_size_22 rfl (lv_at hl 1 rfl) ?_
        refine lv_iload_n hx hb dX3_size_23 rfl (lv_at hl 0 rfl) ?_
        refine g_calli (va_runV (As := [.int ((-2) - v)]) (rest := []) ⟨hx, hb, hml, hown, hts⟩ (k_isDelta l G base hM (v := (-2) - v)) (cwV 1 hts gX3_size_X3_isDelta rfl rfl rfl (by decide +kernel) ⟨(Nat.le_of_ble_eq_true rfl), (Nat.le_of_ble_eq_true rfl)⟩) (g_pv3 hK hG mL0 mK0) rfl rfl hl.1 rfl (lv_room (Nat.le_of_ble_eq_true rfl)) dX3_size_24 ⟨(Nat.le_of_ble_eq_true rfl), (Nat.le_of_ble_eq_true rfl)⟩) hG (fun y2 b2 H locs hp hG => ?_)
        obtain ⟨e9, h2⟩ := hp
        subst e9
        refine lv_if_eq (tgt := 34) hx hb dX3_size_27 (by decide) (fun c4 => ?_) (fun c4 => ?_)
        · have hno : ¬ ((∃ k, szB (b_nd β) v k) ∧ okI wh 2) := fun z => z.1.elim (fun k y => y.elim (fun x => by obtain ⟨q, x1, x2, -⟩ := x; exact hn1 ⟨q, x1, x2⟩) (fun x => by obtain ⟨d, x1, x2, -⟩ := x.2; exact absurd ((bi_0.mp c4).symm.trans (h2.mpr ⟨d, x1, x2⟩)) (by decide)))
          refine lv_iconst (v := 0) hx hb dX3_size_34 (by decide) ?_
          refine lv_istore (lv' := [(4, .int 0), (3, .int ((-2) - v)), (0, .ref (bm 0)), (1, .int v), (2, .int wh)]) hx hb dX3_size_35 hl (by decide) rfl (fun ls hl => ?_)
          refine lv_aload_n hx hb dX3_size_37 rfl (lv_at hl 2 rfl) ?_
          refine lv_iload hx hb dX3_size_38 (lv_at hl 0 rfl) ?_
          refine lv_if_eq (tgt := 56) hx hb dX3_size_40 (by decide) (fun c9 => ?_) (fun c9 => ?_)
          · refine lv_iconst (v := 0) hx hb dX3_size_56 (by decide) ?_
            refine g_calli (va_runV (As := [.int 0]) (rest := []) ⟨hx, hb, hml, hown, hts⟩ (k_goes l G base hM (g := false)) (cwV 1 hts gX3_size_X3_goes rfl rfl rfl (by decide +kernel) ⟨(Nat.le_of_ble_eq_true rfl), (Nat.le_of_ble_eq_true rfl)⟩) (g_pv3 hK hG mL0 mK0) rfl rfl hl.1 rfl (lv_room (Nat.le_of_ble_eq_true rfl)) dX3_size_57 ⟨(Nat.le_of_ble_eq_true rfl), (Nat.le_of_ble_eq_true rfl)⟩) hG (fun y5 _ H locs hp hG => ?_)
            obtain ⟨f1, ef1⟩ : ∃ z, z = g_up fI (bm 0) 0 (bi (!false)) := ⟨_, rfl⟩
            replace hG : gw G base s.heap (L, K, n, rI, rJ, rQ, f1, fR) H locs := by rw [ef1]; exact hG
            have hT1 : StpM (L, K, n, rI, rJ, rQ, fI, fR) bm (L, K, n, rI, rJ, rQ, f1, fR) β := repM_F0 hM (by rw [ef1, g_up_i _ _ _ _ (by decide)]) (fun b hb => by rw [ef1, g_up_other _ _ _ hb])
            have hf1 : f1 (bm 0) 0 = 1 := by rw [ef1, g_up_at]; rfl
            subst hp
            refine lv_if_ne (tgt := 65) hx hb dX3_size_60 (by decide) (fun c8 => ?_) (fun c8 => ?_)
            · exact absurd rfl c8
            · refine lv_iconst (v := 0) hx hb dX3_size_63 (by decide) ?_
              refine W.widen (k := 0) (n := 0) (by omega) (by omega) ?_
              exact W.iret (v := 0) hx hb hr (fun t9 h9 hW9 => ⟨⟨0, (f1, 0), rfl, ⟨Or.inr ⟨hf1, hno⟩, hT1⟩, hG.at h9⟩, hG.2.2.1.F h9⟩) hG.2.2.1.2.2 dX3_size_64
          · exact absurd rfl c9
        · obtain ⟨dd, hdd, hddv⟩ := h2.mp (ts_nf (fun z => c4 (bi_0.mpr z)))
          refine lv_iconst (v := 1) hx hb dX3_size_30 (by decide) ?_
          refine lv_goto (tgt := 35) hx hb dX3_size_31 (by decide) ?_
          refine lv_istore (lv' := [(4, .int 1), (3, .int ((-2) - v)), (0, .ref (bm 0)), (1, .int v), (2, .int wh)]) hx hb dX3_size_35 hl (by decide) rfl (fun ls hl => ?_)
          refine lv_aload_n hx hb dX3_size_37 rfl (lv_at hl 2 rfl) ?_
          refine lv_iload hx hb dX3_size_38 (lv_at hl 0 rfl) ?_
          refine lv_if_eq (tgt := 56) hx hb dX3_size_40 (by decide) (fun c9 => ?_) (fun c9 => ?_)
          · exact absurd c9 (by decide)
          · refine lv_iload_n hx hb dX3_size_43 rfl (lv_at hl 4 rfl) ?_
            refine lv_iconst (v := 0) hx hb dX3_size_44 (by decide) ?_
            refine lv_iconst (v := 1) hx hb dX3_size_45 (by decide) ?_
            refine g_calli (va_runS (As := [.int wh, .int 0, .int 1]) (rest := [.ref (bm 0)]) ⟨hx, hb, hml, hown, hts⟩ (k_in l G base (v := wh) (lo := 0) (hi := 1)) (cwS 3 hts gX3_size_X3_in rfl rfl rfl (by decide +kernel) ⟨(Nat.le_of_ble_eq_true rfl), (Nat.le_of_ble_eq_true rfl)⟩) (g_ps hK hG) rfl rfl hl.1 rfl (lv_room (Nat.le_of_ble_eq_true rfl)) dX3_size_46 ⟨(Nat.le_of_ble_eq_true rfl), (Nat.le_of_ble_eq_true rfl)⟩) hG (fun y3 b3 H locs hp hG => ?_)
            obtain ⟨e9, h3⟩ := hp
            replace h3 := h3.trans (okI_le (v := wh) (N := 2) (by decide))
            subst e9
            refine lv_if_eq (tgt := 56) hx hb dX3_size_49 (by decide) (fun c5 => ?_) (fun c5 => ?_)
            · have hno : ¬ ((∃ k, szB (b_nd β) v k) ∧ okI wh 2) := fun z => absurd ((bi_0.mp c5).symm.trans (h3.mpr z.2)) (by decide)
              refine lv_iconst (v := 0) hx hb dX3_size_56 (by decide) ?_
              refine g_calli (va_runV (As := [.int 0]) (rest := []) ⟨hx, hb, hml, hown, hts⟩ (k_goes l G base hM (g := false)) (cwV 1 hts gX3_size_X3_goes rfl rfl rfl (by decide +kernel) ⟨(Nat.le_of_ble_eq_true rfl), (Nat.le_of_ble_eq_true rfl)⟩) (g_pv3 hK hG mL0 mK0) rfl rfl hl.1 rfl (lv_room (Nat.le_of_ble_eq_true rfl)) dX3_size_57 ⟨(Nat.le_of_ble_eq_true rfl), (Nat.le_of_ble_eq_true rfl)⟩) hG (fun y5 _ H locs hp hG => ?_)
              obtain ⟨f1, ef1⟩ : ∃ z, z = g_up fI (bm 0) 0 (bi (!false)) := ⟨_, rfl⟩
              replace hG : gw G base s.heap (L, K, n, rI, rJ, rQ, f1, fR) H locs := by rw [ef1]; exact hG
              have hT1 : StpM (L, K, n, rI, rJ, rQ, fI, fR) bm (L, K, n, rI, rJ, rQ, f1, fR) β := repM_F0 hM (by rw [ef1, g_up_i _ _ _ _ (by decide)]) (fun b hb => by rw [ef1, g_up_other _ _ _ hb])
              have hf1 : f1 (bm 0) 0 = 1 := by rw [ef1, g_up_at]; rfl
              subst hp
              refine lv_if_ne (tgt := 65) hx hb dX3_size_60 (by decide) (fun c8 => ?_) (fun c8 => ?_)
              · exact absurd rfl c8
              · refine lv_iconst (v := 0) hx hb dX3_size_63 (by decide) ?_
                refine W.widen (k := 0) (n := 0) (by omega) (by omega) ?_
                exact W.iret (v := 0) hx hb hr (fun t9 h9 hW9 => ⟨⟨0, (f1, 0), rfl, ⟨Or.inr ⟨hf1, hno⟩, hT1⟩, hG.at h9⟩, hG.2.2.1.F h9⟩) hG.2.2.1.2.2 dX3_size_64
            · have hwh := h3.mp (ts_nf (fun z => c5 (bi_0.mpr z)))
              refine lv_iconst (v := 1) hx hb dX3_size_52 (by decide) ?_
              refine lv_goto (tgt := 57) hx hb dX3_size_53 (by decide) ?_
              refine g_calli (va_runV (As := [.int 1]) (rest := []) ⟨hx, hb, hml, hown, hts⟩ (k_goes l G base hM (g := true)) (cwV 1 hts gX3_size_X3_goes rfl rfl rfl (by decide +kernel) ⟨(Nat.le_of_ble_eq_true rfl), (Nat.le_of_ble_eq_true rfl)⟩) (g_pv3 hK hG mL0 mK0) rfl rfl hl.1 rfl (lv_room (Nat.le_of_ble_eq_true rfl)) dX3_size_57 ⟨(Nat.le_of_ble_eq_true rfl), (Nat.le_of_ble_eq_true rfl)⟩) hG (fun y5 _ H locs hp hG => ?_)
              obtain ⟨f1, ef1⟩ : ∃ z, z = g_up fI (bm 0) 0 (bi (!true)) := ⟨_, rfl⟩
              replace hG : gw G base s.heap (L, K, n, rI, rJ, rQ, f1, fR) H locs := by rw [ef1]; exact hG
              have hT1 : StpM (L, K, n, rI, rJ, rQ, fI, fR) bm (L, K, n, rI, rJ, rQ, f1, fR) β := repM_F0 hM (by rw [ef1, g_up_i _ _ _ _ (by decide)]) (fun b hb => by rw [ef1, g_up_other _ _ _ hb])
              have hf1 : f1 (bm 0) 0 = 0 := by rw [ef1, g_up_at]; rfl
              subst hp
              refine lv_if_ne (tgt := 65) hx hb dX3_size_60 (by decide) (fun c8 => ?_) (fun c8 => ?_)
              · refine lv_iload_n hx hb dX3_size_65 rfl (lv_at hl 3 rfl) ?_
                refine lv_if_lt (tgt := 73) hx hb dX3_size_66 (by decide) (fun c6 => ?_) (fun c6 => ?_)
                · refine lv_bipush (v := 6) hx hb dX3_size_73 (by decide) ?_
                  refine lv_iload_n hx hb dX3_size_75 rfl (lv_at hl 1 rfl) ?_
                  rw [hddv]
                  refine lv_iadd hx hb dX3_size_76 ?_
                  refine lv_topi (fun z3 ez3 => ?_)
                  obtain rfl : z3 = nI (6 + dd) := ez3.trans (nI_add 6 dd)
                  have hsz : szB (b_nd β) v (6 + dd) := Or.inr ⟨c2, dd, hdd, hddv, rfl⟩
                  refine lv_istore (lv' := [(5, .int (nI (6 + dd))), (4, .int 1), (3, .int ((-2) - v)), (0, .ref (bm 0)), (1, .int v), (2, .int wh)]) hx hb dX3_size_77 hl (by decide) rfl (fun ls hl => ?_)
                  refine lv_iconst (v := 0) hx hb dX3_size_79 (by decide) ?_
                  refine lv_istore (lv' := [(6, .int 0), (5, .int (nI (6 + dd))), (4, .int 1), (3, .int ((-2) - v)), (0, .ref (bm 0)), (1, .int v), (2, .int wh)]) hx hb dX3_size_80 hl (by decide) rfl (fun ls hl => ?_)
                  refine lv_iconst (v := 0) hx hb dX3_size_82 (by decide) ?_
                  refine lv_istore (lv' := [(7, .int 0), (6, .int 0), (5, .int (nI (6 + dd))), (4, .int 1), (3, .int ((-2) - v)), (0, .ref (bm 0)), (1, .int v), (2, .int wh)]) hx hb dX3_size_83 hl (by decide) rfl (fun ls hl => ?_)
                  obtain ⟨w, ew⟩ : ∃ z : Nat, z = 0 := ⟨_, rfl⟩
                  obtain ⟨cc, ecc⟩ : ∃ z : Nat, z = 0 := ⟨_, rfl⟩
                  obtain ⟨kk, ekk⟩ : ∃ z : Nat, z = (6 + dd) := ⟨_, rfl⟩
                  replace hl : lv_has ls 8 [(0, .ref (bm 0)), (2, .int wh), (5, .int (nI kk)), (6, .int (nI cc)), (7, .int (nI w))] := by subst ew ecc ekk; exact (lv_sub hl [5, 7, 2, 1, 0] rfl)
                  have inv : w ≤ 6 ∧ cc = cntN (fun f => (if wh = 0 then b_L β kk else b_S β kk) (slot f)) (100 * w) ∧ kk < 257 ∧ szB (b_nd β) v kk := by
                    subst ew ecc ekk
                    exact ⟨by omega, rfl, by omega, hsz⟩
                  have hf : 6 < w + 7 := by omega
                  clear ew ecc ekk
                  generalize 7 = d at hf
                  induction d generalizing w cc kk H locs ls with
                  | zero => exact absurd hf (by have := inv.1; omega)
                  | succ d ih =>
                    refine lv_iload hx hb dX3_size_85 (lv_at hl 4 rfl) ?_
                    refine lv_bipush (v := 6) hx hb dX3_size_87 (by decide) ?_
                    refine lv_icmp_ge (tgt := 126) hx hb dX3_size_89 (by decide) (fun c0 => ?_) (fun c0 => ?_)
                    · have hw : w = 6 := by
                        rcases Nat.lt_or_ge w 6 with q | q
                        · exact absurd c0 (nI_ge q (by decide))
                        · omega
                      subst hw
                      refine lv_iload hx hb dX3_size_126 (lv_at hl 3 rfl) ?_
                      refine W.widen (k := 0) (n := 0) (by omega) (by omega) ?_
                      exact W.iret (v := (nI cc)) hx hb hr (fun t9 h9 hW9 => ⟨⟨(nI cc), (f1, kk), rfl, ⟨Or.inl ⟨hf1, inv.2.2.2, hwh, by rw [inv.2.1]⟩, hT1⟩, hG.at h9⟩, hG.2.2.1.F h9⟩) hG.2.2.1.2.2 dX3_size_128
                    · have hw : w < 6 := by
                        rcases Nat.lt_or_ge w 6 with q | q
                        · exact q
                        · exact absurd (nI_le (a := 6) q (by omega)) c0
                      refine lv_iload hx hb dX3_size_92 (lv_at hl 3 rfl) ?_
                      refine lv_aload_n hx hb dX3_size_94 rfl (lv_at hl 0 rfl) ?_
                      refine lv_iload_n hx hb dX3_size_95 rfl (lv_at hl 1 rfl) ?_
                      refine lv_if_ne (tgt := 106) hx hb dX3_size_96 (by decide) (fun c7 => ?_) (fun c7 => ?_)
                      · refine lv_aload_n hx hb dX3_size_106 rfl (lv_at hl 0 rfl) ?_
                        refine r_Model_seen hx hb hts (by decide +kernel) hown hK hG mL0 mK0 mf2 (hts (.fieldLink RX3 7 "DotStoresModel" "seen" "[J") (by decide +kernel)) dX3_size_107 ?_
                        refine lv_iload hx hb dX3_size_110 (lv_at hl 2 rfl) ?_
                        refine lv_iload hx hb dX3_size_112 (lv_at hl 4 rfl) ?_
                        refine g_calli (va_runV (As := [.ref (bm 2), .int (nI kk), .int (nI w)]) (rest := [.int (nI cc)]) ⟨hx, hb, hml, hown, hts⟩ (k_countOf l G base hMd (k := kk) (q := w) mL2 mK2 mn2 inv.2.2.1 (by omega)) (cwV 3 hts gX3_size_X3_countOf rfl rfl rfl (by decide +kernel) ⟨(Nat.le_of_ble_eq_true rfl), (Nat.le_of_ble_eq_true rfl)⟩) (g_pv3 hK hG mL0 mK0) rfl rfl hl.1 rfl (lv_room (Nat.le_of_ble_eq_true rfl)) dX3_size_114 ⟨(Nat.le_of_ble_eq_true rfl), (Nat.le_of_ble_eq_true rfl)⟩) hG (fun y7 _ H locs hp hG => ?_)
                        have hp : y7 = nI (cntN (fun i => b_S β kk (128 * w + i)) 100) := by
                          rw [hp]
                          exact congrArg nI (cntN_congr (fun i hi => repM_S hM inv.2.2.1 (by omega) (by omega)))
                        subst hp
                        refine lv_iadd hx hb dX3_size_117 ?_
                        refine lv_topi (fun z4 ez4 => ?_)
                        obtain rfl : z4 = nI (cc + cntN (fun i => b_S β kk (128 * w + i)) 100) := ez4.trans (nI_add _ _)
                        refine lv_istore (lv' := [(6, .int (nI (cc + cntN (fun i => b_S β kk (128 * w + i)) 100))), (0, .ref (bm 0)), (2, .int wh), (5, .int (nI kk)), (7, .int (nI w))]) hx hb dX3_size_118 hl (by decide) rfl (fun ls hl => ?_)
                        refine lv_iinc (v := (nI (w + 1))) (lv' := [(7, .int (nI (w + 1))), (6, .int (nI (cc + cntN (fun i => b_S β kk (128 * w + i)) 100))), (0, .ref (bm 0)), (2, .int wh), (5, .int (nI kk))]) hx hb dX3_size_120 hl (k := 4) rfl (nI_1 w) (by decide) rfl (fun ls hl => ?_)
                        refine lv_goto (tgt := 85) hx hb dX3_size_123 (by decide) ?_
                        exact ih (w := w + 1) (kk := kk) (hl := (lv_sub hl [2, 3, 4, 1, 0] rfl)) (hG := hG) (inv := ⟨by omega, by rw [cntN_sl (if wh = 0 then b_L β kk else b_S β kk) w, ← inv.2.1, if_neg c7], inv.2.2⟩) (hf := by omega)
                      · have c7 : wh = 0 := (by first | exact c7 | exact Classical.not_not.mp c7)
                        refine lv_aload_n hx hb dX3_size_99 rfl (lv_at hl 0 rfl) ?_
                        refine r_Model_live hx hb hts (by decide +kernel) hown hK hG mL0 mK0 mf3 (hts (.fieldLink RX3 13 "DotStoresModel" "live" "[J") (by decide +kernel)) dX3_size_100 ?_
                        refine lv_goto (tgt := 110) hx hb dX3_size_103 (by decide) ?_
                        refine lv_iload hx hb dX3_size_110 (lv_at hl 2 rfl) ?_
                        refine lv_iload hx hb dX3_size_112 (lv_at hl 4 rfl) ?_
                        refine g_calli (va_runV (As := [.ref (bm 3), .int (nI kk), .int (nI w)]) (rest := [.int (nI cc)]) ⟨hx, hb, hml, hown, hts⟩ (k_countOf l G base hMd (k := kk) (q := w) mL3 mK3 mn3 inv.2.2.1 (by omega)) (cwV 3 hts gX3_size_X3_countOf rfl rfl rfl (by decide +kernel) ⟨(Nat.le_of_ble_eq_true rfl), (Nat.le_of_ble_eq_true rfl)⟩) (g_pv3 hK hG mL0 mK0) rfl rfl hl.1 rfl (lv_room (Nat.le_of_ble_eq_true rfl)) dX3_size_114 ⟨(Nat.le_of_ble_eq_true rfl), (Nat.le_of_ble_eq_true rfl)⟩) hG (fun y7 _ H locs hp hG => ?_)
                        have hp : y7 = nI (cntN (fun i => b_L β kk (128 * w + i)) 100) := by
                          rw [hp]
                          exact congrArg nI (cntN_congr (fun i hi => repM_L hM inv.2.2.1 (by omega) (by omega)))
                        subst hp
                        refine lv_iadd hx hb dX3_size_117 ?_
                        refine lv_topi (fun z5 ez5 => ?_)
                        obtain rfl : z5 = nI (cc + cntN (fun i => b_L β kk (128 * w + i)) 100) := ez5.trans (nI_add _ _)
                        refine lv_istore (lv' := [(6, .int (nI (cc + cntN (fun i => b_L β kk (128 * w + i)) 100))), (0, .ref (bm 0)), (2, .int wh), (5, .int (nI kk)), (7, .int (nI w))]) hx hb dX3_size_118 hl (by decide) rfl (fun ls hl => ?_)
                        refine lv_iinc (v := (nI (w + 1))) (lv' := [(7, .int (nI (w + 1))), (6, .int (nI (cc + cntN (fun i => b_L β kk (128 * w + i)) 100))), (0, .ref (bm 0)), (2, .int wh), (5, .int (nI kk))]) hx hb dX3_size_120 hl (k := 4) rfl (nI_1 w) (by decide) rfl (fun ls hl => ?_)
                        refine lv_goto (tgt := 85) hx hb dX3_size_123 (by decide) ?_
                        exact ih (w := w + 1) (kk := kk) (hl := (lv_sub hl [2, 3, 4, 1, 0] rfl)) (hG := hG) (inv := ⟨by omega, by rw [cntN_sl (if wh = 0 then b_L β kk else b_S β kk) w, ← inv.2.1, if_pos c7], inv.2.2⟩) (hf := by omega)
                · exact absurd (Int32.lt_trans c2 (by decide)) c6
              · exact absurd c8 (by decide)
