set_option maxHeartbeats 4000000 in
set_option maxRecDepth 100000 in
/-- enter -/
theorem k_enter (l : Launch) (G : gG) (base : Nat) {L : List Nat} {K n : Nat → Nat} {rI : Nat → Nat → Int32} {rJ : Nat → Nat → Int64} {rQ : Nat → Nat → Option Nat} {fI : Nat → Nat → Int32} {fR : Nat → Nat → Option Nat} {bm : Nat → Nat} (hMd : isMd L K n fR bm) {v : Int64} {mm : Nat} (hmm : mm < 600) (hmany : fI (bm 0) 12 = nI mm) (hsd : Sd (rJ (bm 13)) mm) : Met l yX3_enter wsX3_enter ({ frames := 0, cells := 0, slots := 0, locals := 0 }) (va_Pc [.ref (bm 0), .long v] (g_Pr G base (L, K, n, rI, rJ, rQ, fI, fR))) (g_Qv G base (fun u : Nat × (Nat → Nat → Int64) × (Nat → Nat → Int32) => (L, K, n, rI, u.2.1, rQ, u.2.2, fR)) (fun u => u.2.2 (bm 0) 12 = nI u.1 ∧ u.1 ≤ mm + 1 ∧ (∀ b, b ≠ bm 0 → u.2.2 b = fI b) ∧ (∀ i, i ≠ 12 → u.2.2 (bm 0) i = fI (bm 0) i) ∧ (∀ b, b ≠ bm 13 → u.2.1 b = rJ b) ∧ Sd (u.2.1 (bm 13)) u.1 ∧ ∀ y, Mb (u.2.1 (bm 13)) u.1 y ↔ (Mb (rJ (bm 13)) mm y ∨ y = v))) 0 0 (g_A base) := by
  have hMd0 := hMd
  obtain ⟨minj, mL0, mK0, ⟨mf2, mf3, mf4, mf5, mf6, mf7, mf8, mf9, mf10, mf11, mf13⟩, ⟨mL2, mK2, mn2⟩, ⟨mL3, mK3, mn3⟩, ⟨mL4, mK4, mn4⟩, ⟨mL5, mK5, mn5⟩, ⟨mL6, mK6, mn6⟩, ⟨mL7, mK7, mn7⟩, ⟨mL8, mK8, mn8⟩, ⟨mL9, mK9, mn9⟩, ⟨mL10, mK10, mn10⟩, ⟨mL11, mK11, mn11⟩, ⟨mL13, mK13, mn13⟩⟩ := hMd0
  refine Met.ofW (cc := cX3_enter) (maxL := 5) (ret := none) (by decide) rfl ?_
  intro p e s m args below meth c s₁ B hml hv
  obtain ⟨rfl, hPr⟩ := hv
  have hx := B.exec
  have hb := B.bytes
  have hr := B.returns
  have hts := atoms_spec (ws := wsX3_enter) B.pre
  have hown : s.vm.findClass RX3 = some m.cls := findClass_of_methodNamed B.named
  have hlocks := B.notSynchronized
  have hin : meth.name = "enter" := (name_of_methodNamed B.named B.method).1
  have hK := hPr.2.2
  have hG := hPr.gw
  have hl := lv_entry ([.ref (bm 0), .long v]) (n := 5) (Nat.le_of_ble_eq_true rfl)
  rw [lg_entry_eq]
  generalize (lg_sl ([.ref (bm 0), .long v]) ++ List.replicate (5 - (lg_sl ([.ref (bm 0), .long v])).length) Slot.unset).toArray = ls at hl ⊢
  have hl : lv_has ls 5 [(0, .ref (bm 0)), (1, .long v)] := hl
  refine g_start hPr (fun H locs hG => ?_)
  refine lv_iconst (v := 0) hx hb dX3_enter_0 (by decide) ?_
  refine lv_istore_n (lv' := [(3, .int 0), (0, .ref (bm 0)), (1, .long v)]) hx hb dX3_enter_1 rfl hl (by decide) rfl (fun ls hl => ?_)
  obtain ⟨k, ek⟩ : ∃ z : Nat, z = 0 := ⟨_, rfl⟩
  replace hl : lv_has ls 5 [(0, .ref (bm 0)), (1, .long v), (3, .int (nI k))] := by subst ek; exact (lv_sub hl [1, 2, 0] rfl)
  have inv : k ≤ mm ∧ ∀ i, i < k → rJ (bm 13) i < v := by
    subst ek
    exact ⟨by omega, fun i hi => absurd hi (Nat.not_lt_zero i)⟩
  have hf : mm < k + 601 := by omega
  clear ek
  generalize 601 = d at hf
  induction d generalizing k H locs ls with
  | zero => exact absurd hf (by have := inv.1; omega)
  | succ d ih =>
    refine lv_iload_n hx hb dX3_enter_2 rfl (lv_at hl 2 rfl) ?_
    refine lv_aload_n hx hb dX3_enter_3 rfl (lv_at hl 0 rfl) ?_
    refine r_Model_many hx hb hts (by decide +kernel) hown hK hG mL0 mK0 (hts (.fieldLink RX3 142 "DotStoresModel" "many" "I") (by decide +kernel)) dX3_enter_4 ?_
    refine lv_topi (fun z1 ez1 => ?_)
    obtain rfl : z1 = nI mm := ez1.trans (hmany)
    refine lv_icmp_ge (tgt := 27) hx hb dX3_enter_7 (by decide) (fun c0 => ?_) (fun c0 => ?_)
    · have hle : k < mm → ¬ rJ (bm 13) k < v := fun q => absurd q (by have := nI_le_of (by omega) c0; omega)
      refine lv_iload_n hx hb dX3_enter_27 rfl (lv_at hl 2 rfl) ?_
      refine lv_aload_n hx hb dX3_enter_28 rfl (lv_at hl 0 rfl) ?_
      refine r_Model_many hx hb hts (by decide +kernel) hown hK hG mL0 mK0 (hts (.fieldLink RX3 142 "DotStoresModel" "many" "I") (by decide +kernel)) dX3_enter_29 ?_
      refine lv_topi (fun z2 ez2 => ?_)
      obtain rfl : z2 = nI mm := ez2.trans (hmany)
      refine lv_icmp_ge (tgt := 47) hx hb dX3_enter_32 (by decide) (fun c2 => ?_) (fun c2 => ?_)
      · have h2 : k < mm → v < rJ (bm 13) k := fun q => absurd q (by have := nI_le_of (by omega) c2; omega)
        refine lv_aload_n hx hb dX3_enter_47 rfl (lv_at hl 0 rfl) ?_
        refine r_Model_many hx hb hts (by decide +kernel) hown hK hG mL0 mK0 (hts (.fieldLink RX3 142 "DotStoresModel" "many" "I") (by decide +kernel)) dX3_enter_48 ?_
        refine lv_topi (fun z3 ez3 => ?_)
        obtain rfl : z3 = nI mm := ez3.trans (hmany)
        refine lv_istore (lv' := [(4, .int (nI mm)), (0, .ref (bm 0)), (1, .long v), (3, .int (nI k))]) hx hb dX3_enter_51 hl (by decide) rfl (fun ls hl => ?_)
        clear ih hf
        have h1 := inv.2
        have hkm := inv.1
        clear inv
        obtain ⟨w, ew⟩ : ∃ z : Nat, z = 0 := ⟨_, rfl⟩
        obtain ⟨r1, er1⟩ : ∃ z : Nat → Nat → Int64, z = rJ := ⟨_, rfl⟩
        replace hl : lv_has ls 5 [(0, .ref (bm 0)), (1, .long v), (3, .int (nI k)), (4, .int (nI (mm - w)))] := by subst ew er1; exact (lv_sub hl [1, 2, 3, 0] rfl)
        replace hG : gw G base s.heap (L, K, n, rI, r1, rQ, fI, fR) H locs := by subst ew er1; exact hG
        have inv : w + k ≤ mm ∧ (∀ b, b ≠ bm 13 → r1 b = rJ b) ∧ (∀ i, i < mm - w → r1 (bm 13) i = rJ (bm 13) i) ∧ ∀ i, mm - w < i → i ≤ mm → r1 (bm 13) i = rJ (bm 13) (i - 1) := by
          subst ew er1
          exact ⟨by omega, fun _ _ => rfl, fun _ _ => rfl, fun i h1 h2 => by omega⟩
        have hf : mm < w + 602 := by omega
        clear ew er1
        generalize 602 = d at hf
        induction d generalizing w r1 H locs ls with
        | zero => exact absurd hf (by have := inv.1; omega)
        | succ d ih =>
          refine lv_iload hx hb dX3_enter_53 (lv_at hl 3 rfl) ?_
          refine lv_iload_n hx hb dX3_enter_55 rfl (lv_at hl 2 rfl) ?_
          refine lv_icmp_le (tgt := 81) hx hb dX3_enter_56 (by decide) (fun c4 => ?_) (fun c4 => ?_)
          · have hwk : mm - w = k := Nat.le_antisymm (nI_le_of (by omega) c4) (by omega)
            refine lv_aload_n hx hb dX3_enter_81 rfl (lv_at hl 0 rfl) ?_
            refine r_Model_sorted hx hb hts (by decide +kernel) hown hK hG mL0 mK0 mf13 (hts (.fieldLink RX3 42 "DotStoresModel" "sorted" "[J") (by decide +kernel)) dX3_enter_82 ?_
            refine lv_iload_n hx hb dX3_enter_85 rfl (lv_at hl 2 rfl) ?_
            refine lv_lload_n hx hb dX3_enter_86 rfl (lv_at hl 1 rfl) ?_
            refine g_last hx hb hK hG mL13 mK13 (k) rfl (by rw [mn13]; omega) (by rw [mn13]; decide) dX3_enter_87 (fun H locs hG => ?_)
            obtain ⟨r2, er2⟩ : ∃ z, z = g_up r1 (bm 13) k v := ⟨_, rfl⟩
            rw [← er2] at hG
            have ho2 : ∀ b, b ≠ bm 13 → r2 b = rJ b := fun b hb => by rw [er2, g_up_other _ _ _ hb]; exact inv.2.1 b hb
            have hfin : Sd (r2 (bm 13)) (mm + 1) ∧ ∀ y, Mb (r2 (bm 13)) (mm + 1) y ↔ (Mb (rJ (bm 13)) mm y ∨ y = v) := ord_ins hsd hkm h1 h2 (fun i hi => by rw [er2, g_up_i _ _ _ _ (by omega)]; exact inv.2.2.1 i (by omega)) (by rw [er2, g_up_at]) (fun i q1 q2 => by rw [er2, g_up_i _ _ _ _ (by omega)]; exact inv.2.2.2 i (by omega) q2)
            refine lv_aload_n hx hb dX3_enter_88 rfl (lv_at hl 0 rfl) ?_
            refine lv_dup hx hb dX3_enter_89 rfl ?_
            refine r_Model_many hx hb hts (by decide +kernel) hown hK hG mL0 mK0 (hts (.fieldLink RX3 142 "DotStoresModel" "many" "I") (by decide +kernel)) dX3_enter_90 ?_
            refine lv_topi (fun z4 ez4 => ?_)
            obtain rfl : z4 = nI mm := ez4.trans (hmany)
            refine lv_iconst (v := 1) hx hb dX3_enter_93 (by decide) ?_
            refine lv_iadd hx hb dX3_enter_94 ?_
            refine lv_topi (fun z5 ez5 => ?_)
            obtain rfl : z5 = nI (mm + 1) := ez5.trans (nI_1 mm)
            refine w_Model_many hx hb hts (by decide +kernel) hown hK hG mL0 mK0 (hts (.fieldLink RX3 142 "DotStoresModel" "many" "I") (by decide +kernel)) dX3_enter_95 (fun H locs hG => ?_)
            refine W.widen (k := 0) (n := 0) (by omega) (by omega) ?_
            exact W.vret hx hb hr (fun t9 h9 hW9 => ⟨⟨(mm + 1, r2, g_up fI (bm 0) 12 (nI (mm + 1))), rfl, ⟨g_up_at _ _ _ _, Nat.le_refl _, fun b hb => g_up_other _ _ _ hb, fun i hi => g_up_i _ _ _ _ hi, ho2, hfin⟩, hG.at h9⟩, hG.2.2.1.F h9⟩) hG.2.2.1.2.2 dX3_enter_98
          · have hwk : k < mm - w := nI_lt_of (by omega) c4
            refine lv_aload_n hx hb dX3_enter_59 rfl (lv_at hl 0 rfl) ?_
            refine r_Model_sorted hx hb hts (by decide +kernel) hown hK hG mL0 mK0 mf13 (hts (.fieldLink RX3 42 "DotStoresModel" "sorted" "[J") (by decide +kernel)) dX3_enter_60 ?_
            refine lv_iload hx hb dX3_enter_63 (lv_at hl 3 rfl) ?_
            refine lv_aload_n hx hb dX3_enter_65 rfl (lv_at hl 0 rfl) ?_
            refine r_Model_sorted hx hb hts (by decide +kernel) hown hK hG mL0 mK0 mf13 (hts (.fieldLink RX3 42 "DotStoresModel" "sorted" "[J") (by decide +kernel)) dX3_enter_66 ?_
            refine lv_iload hx hb dX3_enter_69 (lv_at hl 3 rfl) ?_
            refine lv_iconst (v := 1) hx hb dX3_enter_71 (by decide) ?_
            refine lv_isub hx hb dX3_enter_72 ?_
            refine lv_topi (fun z6 ez6 => ?_)
            obtain rfl : z6 = nI (mm - w - 1) := ez6.trans (nI_pr (by omega))
            refine g_lald hx hb hK hG mL13 mK13 (mm - w - 1) rfl (by rw [mn13]; omega) (by rw [mn13]; decide) dX3_enter_73 ?_
            refine g_last hx hb hK hG mL13 mK13 (mm - w) rfl (by rw [mn13]; omega) (by rw [mn13]; decide) dX3_enter_74 (fun H locs hG => ?_)
            refine lv_iinc (v := (nI (mm - (w + 1)))) (lv' := [(4, .int (nI (mm - (w + 1)))), (0, .ref (bm 0)), (1, .long v), (3, .int (nI k))]) hx hb dX3_enter_75 hl (k := 3) rfl ((nI_mn (show 0 < mm - w by omega)).trans (congrArg nI (by omega))) (by decide) rfl (fun ls hl => ?_)
            refine lv_goto (tgt := 53) hx hb dX3_enter_78 (by decide) ?_
            exact ih (w := w + 1) (hl := (lv_sub hl [1, 2, 3, 0] rfl)) (hG := hG) (inv := ⟨by omega, fun b hb => by rw [g_up_other _ _ _ hb]; exact inv.2.1 b hb, fun i hi => by rw [g_up_i _ _ _ _ (by omega)]; exact inv.2.2.1 i (by omega), fun i q1 q2 => by
                rcases Nat.eq_or_lt_of_le (show mm - w ≤ i by omega) with q | q
                · subst q; rw [g_up_at]; exact inv.2.2.1 _ (by omega)
                · rw [g_up_i _ _ _ _ (by omega)]; exact inv.2.2.2 i q q2⟩) (hf := by omega)
      · have hkl : k < mm := nI_lt_of (by omega) c2
        refine lv_aload_n hx hb dX3_enter_35 rfl (lv_at hl 0 rfl) ?_
        refine r_Model_sorted hx hb hts (by decide +kernel) hown hK hG mL0 mK0 mf13 (hts (.fieldLink RX3 42 "DotStoresModel" "sorted" "[J") (by decide +kernel)) dX3_enter_36 ?_
        refine lv_iload_n hx hb dX3_enter_39 rfl (lv_at hl 2 rfl) ?_
        refine g_lald hx hb hK hG mL13 mK13 (k) rfl (by rw [mn13]; omega) (by rw [mn13]; decide) dX3_enter_40 ?_
        refine lv_lload_n hx hb dX3_enter_41 rfl (lv_at hl 1 rfl) ?_
        refine W.lcmp hx hb dX3_enter_42 ?_
        refine lv_if_ne (tgt := 47) hx hb dX3_enter_43 (by decide) (fun c3 => ?_) (fun c3 => ?_)
        · have h2 : k < mm → v < rJ (bm 13) k := fun q => i64_le (hle q) (fun z => c3 ((lg_cmp_eq _ _).mpr z))
          refine lv_aload_n hx hb dX3_enter_47 rfl (lv_at hl 0 rfl) ?_
          refine r_Model_many hx hb hts (by decide +kernel) hown hK hG mL0 mK0 (hts (.fieldLink RX3 142 "DotStoresModel" "many" "I") (by decide +kernel)) dX3_enter_48 ?_
          refine lv_topi (fun z7 ez7 => ?_)
          obtain rfl : z7 = nI mm := ez7.trans (hmany)
          refine lv_istore (lv' := [(4, .int (nI mm)), (0, .ref (bm 0)), (1, .long v), (3, .int (nI k))]) hx hb dX3_enter_51 hl (by decide) rfl (fun ls hl => ?_)
          clear ih hf
          have h1 := inv.2
          have hkm := inv.1
          clear inv
          obtain ⟨w, ew⟩ : ∃ z : Nat, z = 0 := ⟨_, rfl⟩
          obtain ⟨r1, er1⟩ : ∃ z : Nat → Nat → Int64, z = rJ := ⟨_, rfl⟩
          replace hl : lv_has ls 5 [(0, .ref (bm 0)), (1, .long v), (3, .int (nI k)), (4, .int (nI (mm - w)))] := by subst ew er1; exact (lv_sub hl [1, 2, 3, 0] rfl)
          replace hG : gw G base s.heap (L, K, n, rI, r1, rQ, fI, fR) H locs := by subst ew er1; exact hG
          have inv : w + k ≤ mm ∧ (∀ b, b ≠ bm 13 → r1 b = rJ b) ∧ (∀ i, i < mm - w → r1 (bm 13) i = rJ (bm 13) i) ∧ ∀ i, mm - w < i → i ≤ mm → r1 (bm 13) i = rJ (bm 13) (i - 1) := by
            subst ew er1
            exact ⟨by omega, fun _ _ => rfl, fun _ _ => rfl, fun i h1 h2 => by omega⟩
          have hf : mm < w + 602 := by omega
          clear ew er1
          generalize 602 = d at hf
          induction d generalizing w r1 H locs ls with
          | zero => exact absurd hf (by have := inv.1; omega)
          | succ d ih =>
            refine lv_iload hx hb dX3_enter_53 (lv_at hl 3 rfl) ?_
            refine lv_iload_n hx hb dX3_enter_55 rfl (lv_at hl 2 rfl) ?_
            refine lv_icmp_le (tgt := 81) hx hb dX3_enter_56 (by decide) (fun c4 => ?_) (fun c4 => ?_)
            · have hwk : mm - w = k := Nat.le_antisymm (nI_le_of (by omega) c4) (by omega)
              refine lv_aload_n hx hb dX3_enter_81 rfl (lv_at hl 0 rfl) ?_
              refine r_Model_sorted hx hb hts (by decide +kernel) hown hK hG mL0 mK0 mf13 (hts (.fieldLink RX3 42 "DotStoresModel" "sorted" "[J") (by decide +kernel)) dX3_enter_82 ?_
              refine lv_iload_n hx hb dX3_enter_85 rfl (lv_at hl 2 rfl) ?_
              refine lv_lload_n hx hb dX3_enter_86 rfl (lv_at hl 1 rfl) ?_
              refine g_last hx hb hK hG mL13 mK13 (k) rfl (by rw [mn13]; omega) (by rw [mn13]; decide) dX3_enter_87 (fun H locs hG => ?_)
              obtain ⟨r2, er2⟩ : ∃ z, z = g_up r1 (bm 13) k v := ⟨_, rfl⟩
              rw [← er2] at hG
              have ho2 : ∀ b, b ≠ bm 13 → r2 b = rJ b := fun b hb => by rw [er2, g_up_other _ _ _ hb]; exact inv.2.1 b hb
              have hfin : Sd (r2 (bm 13)) (mm + 1) ∧ ∀ y, Mb (r2 (bm 13)) (mm + 1) y ↔ (Mb (rJ (bm 13)) mm y ∨ y = v) := ord_ins hsd hkm h1 h2 (fun i hi => by rw [er2, g_up_i _ _ _ _ (by omega)]; exact inv.2.2.1 i (by omega)) (by rw [er2, g_up_at]) (fun i q1 q2 => by rw [er2, g_up_i _ _ _ _ (by omega)]; exact inv.2.2.2 i (by omega) q2)
              refine lv_aload_n hx hb dX3_enter_88 rfl (lv_at hl 0 rfl) ?_
              refine lv_dup hx hb dX3_enter_89 rfl ?_
              refine r_Model_many hx hb hts (by decide +kernel) hown hK hG mL0 mK0 (hts (.fieldLink RX3 142 "DotStoresModel" "many" "I") (by decide +kernel)) dX3_enter_90 ?_
              refine lv_topi (fun z8 ez8 => ?_)
              obtain rfl : z8 = nI mm := ez8.trans (hmany)
              refine lv_iconst (v := 1) hx hb dX3_enter_93 (by decide) ?_
              refine lv_iadd hx hb dX3_enter_94 ?_
              refine lv_topi (fun z9 ez9 => ?_)
              obtain rfl : z9 = nI (mm + 1) := ez9.trans (nI_1 mm)
              refine w_Model_many hx hb hts (by decide +kernel) hown hK hG mL0 mK0 (hts (.fieldLink RX3 142 "DotStoresModel" "many" "I") (by decide +kernel)) dX3_enter_95 (fun H locs hG => ?_)
              refine W.widen (k := 0) (n := 0) (by omega) (by omega) ?_
              exact W.vret hx hb hr (fun t9 h9 hW9 => ⟨⟨(mm + 1, r2, g_up fI (bm 0) 12 (nI (mm + 1))), rfl, ⟨g_up_at _ _ _ _, Nat.le_refl _, fun b hb => g_up_other _ _ _ hb, fun i hi => g_up_i _ _ _ _ hi, ho2, hfin⟩, hG.at h9⟩, hG.2.2.1.F h9⟩) hG.2.2.1.2.2 dX3_enter_98
            · have hwk : k < mm - w := nI_lt_of (by omega) c4
              refine lv_aload_n hx hb dX3_enter_59 rfl (lv_at hl 0 rfl) ?_
              refine r_Model_sorted hx hb hts (by decide +kernel) hown hK hG mL0 mK0 mf13 (hts (.fieldLink RX3 42 "DotStoresModel" "sorted" "[J") (by decide +kernel)) dX3_enter_60 ?_
              refine lv_iload hx hb dX3_enter_63 (lv_at hl 3 rfl) ?_
              refine lv_aload_n hx hb dX3_enter_65 rfl (lv_at hl 0 rfl) ?_
              refine r_Model_sorted hx hb hts (by decide +kernel) hown hK hG mL0 mK0 mf13 (hts (.fieldLink RX3 42 "DotStoresModel" "sorted" "[J") (by decide +kernel)) dX3_enter_66 ?_
              refine lv_iload hx hb dX3_enter_69 (lv_at hl 3 rfl) ?_
              refine lv_iconst (v := 1) hx hb dX3_enter_71 (by decide) ?_
              refine lv_isub hx hb dX3_enter_72 ?_
              refine lv_topi (fun z10 ez10 => ?_)
              obtain rfl : z10 = nI (mm - w - 1) := ez10.trans (nI_pr (by omega))
              refine g_lald hx hb hK hG mL13 mK13 (mm - w - 1) rfl (by rw [mn13]; omega) (by rw [mn13]; decide) dX3_enter_73 ?_
              refine g_last hx hb hK hG mL13 mK13 (mm - w) rfl (by rw [mn13]; omega) (by rw [mn13]; decide) dX3_enter_74 (fun H locs hG => ?_)
              refine lv_iinc (v := (nI (mm - (w + 1)))) (lv' := [(4, .int (nI (mm - (w + 1)))), (0, .ref (bm 0)), (1, .long v), (3, .int (nI k))]) hx hb dX3_enter_75 hl (k := 3) rfl ((nI_mn (show 0 < mm - w by omega)).trans (congrArg nI (by omega))) (by decide) rfl (fun ls hl => ?_)
              refine lv_goto (tgt := 53) hx hb dX3_enter_78 (by decide) ?_
              exact ih (w := w + 1) (hl := (lv_sub hl [1, 2, 3, 0] rfl)) (hG := hG) (inv := ⟨by omega, fun b hb => by rw [g_up_other _ _ _ hb]; exact inv.2.1 b hb, fun i hi => by rw [g_up_i _ _ _ _ (by omega)]; exact inv.2.2.1 i (by omega), fun i q1 q2 => by
                  rcases Nat.eq_or_lt_of_le (show mm - w ≤ i by omega) with q | q
                  · subst q; rw [g_up_at]; exact inv.2.2.1 _ (by omega)
                  · rw [g_up_i _ _ _ _ (by omega)]; exact inv.2.2.2 i q q2⟩) (hf := by omega)
        · have c3 : rJ (bm 13) k = v := (lg_cmp_eq _ _).mp (by first | exact c3 | exact Classical.not_not.mp c3)
          refine W.widen (k := 0) (n := 0) (by omega) (by omega) ?_
          exact W.vret hx hb hr (fun t9 h9 hW9 => ⟨⟨(mm, rJ, fI), rfl, ⟨hmany, by omega, fun _ _ => rfl, fun _ _ => rfl, fun _ _ => rfl, hsd, ord_has hkl c3⟩, hG.at h9⟩, hG.2.2.1.F h9⟩) hG.2.2.1.2.2 dX3_enter_46
    · have hkl : k < mm := nI_lt_of (by omega) c0
      refine lv_aload_n hx hb dX3_enter_10 rfl (lv_at hl 0 rfl) ?_
      refine r_Model_sorted hx hb hts (by decide +kernel) hown hK hG mL0 mK0 mf13 (hts (.fieldLink RX3 42 "DotStoresModel" "sorted" "[J") (by decide +kernel)) dX3_enter_11 ?_
      refine lv_iload_n hx hb dX3_enter_14 rfl (lv_at hl 2 rfl) ?_
      refine g_lald hx hb hK hG mL13 mK13 (k) rfl (by rw [mn13]; omega) (by rw [mn13]; decide) dX3_enter_15 ?_
      refine lv_lload_n hx hb dX3_enter_16 rfl (lv_at hl 1 rfl) ?_
      refine W.lcmp hx hb dX3_enter_17 ?_
      refine lv_if_ge (tgt := 27) hx hb dX3_enter_18 (by decide) (fun c1 => ?_) (fun c1 => ?_)
      · have hle : k < mm → ¬ rJ (bm 13) k < v := fun _ q => i64_ir (Int64.lt_of_le_of_lt ((lg_cmp_ge _ _).mp c1) q)
        refine lv_iload_n hx hb dX3_enter_27 rfl (lv_at hl 2 rfl) ?_
        refine lv_aload_n hx hb dX3_enter_28 rfl (lv_at hl 0 rfl) ?_
        refine r_Model_many hx hb hts (by decide +kernel) hown hK hG mL0 mK0 (hts (.fieldLink RX3 142 "DotStoresModel" "many" "I") (by decide +kernel)) dX3_enter_29 ?_
        refine lv_topi (fun z11 ez11 => ?_)
        obtain rfl : z11 = nI mm := ez11.trans (hmany)
        refine lv_icmp_ge (tgt := 47) hx hb dX3_enter_32 (by decide) (fun c2 => ?_) (fun c2 => ?_)
        · have h2 : k < mm → v < rJ (bm 13) k := fun q => absurd q (by have := nI_le_of (by omega) c2; omega)
          refine lv_aload_n hx hb dX3_enter_47 rfl (lv_at hl 0 rfl) ?_
          refine r_Model_many hx hb hts (by decide +kernel) hown hK hG mL0 mK0 (hts (.fieldLink RX3 142 "DotStoresModel" "many" "I") (by decide +kernel)) dX3_enter_48 ?_
          refine lv_topi (fun z12 ez12 => ?_)
          obtain rfl : z12 = nI mm := ez12.trans (hmany)
          refine lv_istore (lv' := [(4, .int (nI mm)), (0, .ref (bm 0)), (1, .long v), (3, .int (nI k))]) hx hb dX3_enter_51 hl (by decide) rfl (fun ls hl => ?_)
          clear ih hf
          have h1 := inv.2
          have hkm := inv.1
          clear inv
          obtain ⟨w, ew⟩ : ∃ z : Nat, z = 0 := ⟨_, rfl⟩
          obtain ⟨r1, er1⟩ : ∃ z : Nat → Nat → Int64, z = rJ := ⟨_, rfl⟩
          replace hl : lv_has ls 5 [(0, .ref (bm 0)), (1, .long v), (3, .int (nI k)), (4, .int (nI (mm - w)))] := by subst ew er1; exact (lv_sub hl [1, 2, 3, 0] rfl)
          replace hG : gw G base s.heap (L, K, n, rI, r1, rQ, fI, fR) H locs := by subst ew er1; exact hG
          have inv : w + k ≤ mm ∧ (∀ b, b ≠ bm 13 → r1 b = rJ b) ∧ (∀ i, i < mm - w → r1 (bm 13) i = rJ (bm 13) i) ∧ ∀ i, mm - w < i → i ≤ mm → r1 (bm 13) i = rJ (bm 13) (i - 1) := by
            subst ew er1
            exact ⟨by omega, fun _ _ => rfl, fun _ _ => rfl, fun i h1 h2 => by omega⟩
          have hf : mm < w + 602 := by omega
          clear ew er1
          generalize 602 = d at hf
          induction d generalizing w r1 H locs ls with
          | zero => exact absurd hf (by have := inv.1; omega)
          | succ d ih =>
            refine lv_iload hx hb dX3_enter_53 (lv_at hl 3 rfl) ?_
            refine lv_iload_n hx hb dX3_enter_55 rfl (lv_at hl 2 rfl) ?_
            refine lv_icmp_le (tgt := 81) hx hb dX3_enter_56 (by decide) (fun c4 => ?_) (fun c4 => ?_)
            · have hwk : mm - w = k := Nat.le_antisymm (nI_le_of (by omega) c4) (by omega)
              refine lv_aload_n hx hb dX3_enter_81 rfl (lv_at hl 0 rfl) ?_
              refine r_Model_sorted hx hb hts (by decide +kernel) hown hK hG mL0 mK0 mf13 (hts (.fieldLink RX3 42 "DotStoresModel" "sorted" "[J") (by decide +kernel)) dX3_enter_82 ?_
              refine lv_iload_n hx hb dX3_enter_85 rfl (lv_at hl 2 rfl) ?_
              refine lv_lload_n hx hb dX3_enter_86 rfl (lv_at hl 1 rfl) ?_
              refine g_last hx hb hK hG mL13 mK13 (k) rfl (by rw [mn13]; omega) (by rw [mn13]; decide) dX3_enter_87 (fun H locs hG => ?_)
              obtain ⟨r2, er2⟩ : ∃ z, z = g_up r1 (bm 13) k v := ⟨_, rfl⟩
              rw [← er2] at hG
              have ho2 : ∀ b, b ≠ bm 13 → r2 b = rJ b := fun b hb => by rw [er2, g_up_other _ _ _ hb]; exact inv.2.1 b hb
              have hfin : Sd (r2 (bm 13)) (mm + 1) ∧ ∀ y, Mb (r2 (bm 13)) (mm + 1) y ↔ (Mb (rJ (bm 13)) mm y ∨ y = v) := ord_ins hsd hkm h1 h2 (fun i hi => by rw [er2, g_up_i _ _ _ _ (by omega)]; exact inv.2.2.1 i (by omega)) (by rw [er2, g_up_at]) (fun i q1 q2 => by rw [er2, g_up_i _ _ _ _ (by omega)]; exact inv.2.2.2 i (by omega) q2)
              refine lv_aload_n hx hb dX3_enter_88 rfl (lv_at hl 0 rfl) ?_
              refine lv_dup hx hb dX3_enter_89 rfl ?_
              refine r_Model_many hx hb hts (by decide +kernel) hown hK hG mL0 mK0 (hts (.fieldLink RX3 142 "DotStoresModel" "many" "I") (by decide +kernel)) dX3_enter_90 ?_
              refine lv_topi (fun z13 ez13 => ?_)
              obtain rfl : z13 = nI mm := ez13.trans (hmany)
              refine lv_iconst (v := 1) hx hb dX3_enter_93 (by decide) ?_
              refine lv_iadd hx hb dX3_enter_94 ?_
              refine lv_topi (fun z14 ez14 => ?_)
              obtain rfl : z14 = nI (mm + 1) := ez14.trans (nI_1 mm)
              refine w_Model_many hx hb hts (by decide +kernel) hown hK hG mL0 mK0 (hts (.fieldLink RX3 142 "DotStoresModel" "many" "I") (by decide +kernel)) dX3_enter_95 (fun H locs hG => ?_)
              refine W.widen (k := 0) (n := 0) (by omega) (by omega) ?_
              exact W.vret hx hb hr (fun t9 h9 hW9 => ⟨⟨(mm + 1, r2, g_up fI (bm 0) 12 (nI (mm + 1))), rfl, ⟨g_up_at _ _ _ _, Nat.le_refl _, fun b hb => g_up_other _ _ _ hb, fun i hi => g_up_i _ _ _ _ hi, ho2, hfin⟩, hG.at h9⟩, hG.2.2.1.F h9⟩) hG.2.2.1.2.2 dX3_enter_98
            · have hwk : k < mm - w := nI_lt_of (by omega) c4
              refine lv_aload_n hx hb dX3_enter_59 rfl (lv_at hl 0 rfl) ?_
              refine r_Model_sorted hx hb hts (by decide +kernel) hown hK hG mL0 mK0 mf13 (hts (.fieldLink RX3 42 "DotStoresModel" "sorted" "[J") (by decide +kernel)) dX3_enter_60 ?_
              refine lv_iload hx hb dX3_enter_63 (lv_at hl 3 rfl) ?_
              refine lv_aload_n hx hb dX3_enter_65 rfl (lv_at hl 0 rfl) ?_
              refine r_Model_sorted hx hb hts (by decide +kernel) hown hK hG mL0 mK0 mf13 (hts (.fieldLink RX3 42 "DotStoresModel" "sorted" "[J") (by decide +kernel)) dX3_enter_66 ?_
              refine lv_iload hx hb dX3_enter_69 (lv_at hl 3 rfl) ?_
              refine lv_iconst (v := 1) hx hb dX3_enter_71 (by decide) ?_
              refine lv_isub hx hb dX3_enter_72 ?_
              refine lv_topi (fun z15 ez15 => ?_)
              obtain rfl : z15 = nI (mm - w - 1) := ez15.trans (nI_pr (by omega))
              refine g_lald hx hb hK hG mL13 mK13 (mm - w - 1) rfl (by rw [mn13]; omega) (by rw [mn13]; decide) dX3_enter_73 ?_
              refine g_last hx hb hK hG mL13 mK13 (mm - w) rfl (by rw [mn13]; omega) (by rw [mn13]; decide) dX3_enter_74 (fun H locs hG => ?_)
              refine lv_iinc (v := (nI (mm - (w + 1)))) (lv' := [(4, .int (nI (mm - (w + 1)))), (0, .ref (bm 0)), (1, .long v), (3, .int (nI k))]) hx hb dX3_enter_75 hl (k := 3) rfl ((nI_mn (show 0 < mm - w by omega)).trans (congrArg nI (by omega))) (by decide) rfl (fun ls hl => ?_)
              refine lv_goto (tgt := 53) hx hb dX3_enter_78 (by decide) ?_
              exact ih (w := w + 1) (hl := (lv_sub hl [1, 2, 3, 0] rfl)) (hG := hG) (inv := ⟨by omega, fun b hb => by rw [g_up_other _ _ _ hb]; exact inv.2.1 b hb, fun i hi => by rw [g_up_i _ _ _ _ (by omega)]; exact inv.2.2.1 i (by omega), fun i q1 q2 => by
                  rcases Nat.eq_or_lt_of_le (show mm - w ≤ i by omega) with q | q
                  · subst q; rw [g_up_at]; exact inv.2.2.1 _ (by omega)
                  · rw [g_up_i _ _ _ _ (by omega)]; exact inv.2.2.2 i q q2⟩) (hf := by omega)
        · have hkl : k < mm := nI_lt_of (by omega) c2
          refine lv_aload_n hx hb dX3_enter_35 rfl (lv_at hl 0 rfl) ?_
          refine r_Model_sorted hx hb hts (by decide +kernel) hown hK hG mL0 mK0 mf13 (hts (.fieldLink RX3 42 "DotStoresModel" "sorted" "[J") (by decide +kernel)) dX3_enter_36 ?_
          refine lv_iload_n hx hb dX3_enter_39 rfl (lv_at hl 2 rfl) ?_
          refine g_lald hx hb hK hG mL13 mK13 (k) rfl (by rw [mn13]; omega) (by rw [mn13]; decide) dX3_enter_40 ?_
          refine lv_lload_n hx hb dX3_enter_41 rfl (lv_at hl 1 rfl) ?_
          refine W.lcmp hx hb dX3_enter_42 ?_
          refine lv_if_ne (tgt := 47) hx hb dX3_enter_43 (by decide) (fun c3 => ?_) (fun c3 => ?_)
          · have h2 : k < mm → v < rJ (bm 13) k := fun q => i64_le (hle q) (fun z => c3 ((lg_cmp_eq _ _).mpr z))
            refine lv_aload_n hx hb dX3_enter_47 rfl (lv_at hl 0 rfl) ?_
            refine r_Model_many hx hb hts (by decide +kernel) hown hK hG mL0 mK0 (hts (.fieldLink RX3 142 "DotStoresModel" "many" "I") (by decide +kernel)) dX3_enter_48 ?_
            refine lv_topi (fun z16 ez16 => ?_)
            obtain rfl : z16 = nI mm := ez16.trans (hmany)
            refine lv_istore (lv' := [(4, .int (nI mm)), (0, .ref (bm 0)), (1, .long v), (3, .int (nI k))]) hx hb dX3_enter_51 hl (by decide) rfl (fun ls hl => ?_)
            clear ih hf
            have h1 := inv.2
            have hkm := inv.1
            clear inv
            obtain ⟨w, ew⟩ : ∃ z : Nat, z = 0 := ⟨_, rfl⟩
            obtain ⟨r1, er1⟩ : ∃ z : Nat → Nat → Int64, z = rJ := ⟨_, rfl⟩
            replace hl : lv_has ls 5 [(0, .ref (bm 0)), (1, .long v), (3, .int (nI k)), (4, .int (nI (mm - w)))] := by subst ew er1; exact (lv_sub hl [1, 2, 3, 0] rfl)
            replace hG : gw G base s.heap (L, K, n, rI, r1, rQ, fI, fR) H locs := by subst ew er1; exact hG
            have inv : w + k ≤ mm ∧ (∀ b, b ≠ bm 13 → r1 b = rJ b) ∧ (∀ i, i < mm - w → r1 (bm 13) i = rJ (bm 13) i) ∧ ∀ i, mm - w < i → i ≤ mm → r1 (bm 13) i = rJ (bm 13) (i - 1) := by
              subst ew er1
              exact ⟨by omega, fun _ _ => rfl, fun _ _ => rfl, fun i h1 h2 => by omega⟩
            have hf : mm < w + 602 := by omega
            clear ew er1
            generalize 602 = d at hf
            induction d generalizing w r1 H locs ls with
            | zero => exact absurd hf (by have := inv.1; omega)
            | succ d ih =>
              refine lv_iload hx hb dX3_enter_53 (lv_at hl 3 rfl) ?_
              refine lv_iload_n hx hb dX3_enter_55 rfl (lv_at hl 2 rfl) ?_
              refine lv_icmp_le (tgt := 81) hx hb dX3_enter_56 (by decide) (fun c4 => ?_) (fun c4 => ?_)
              · have hwk : mm - w = k := Nat.le_antisymm (nI_le_of (by omega) c4) (by omega)
                refine lv_aload_n hx hb dX3_enter_81 rfl (lv_at hl 0 rfl) ?_
                refine r_Model_sorted hx hb hts (by decide +kernel) hown hK hG mL0 mK0 mf13 (hts (.fieldLink RX3 42 "DotStoresModel" "sorted" "[J") (by decide +kernel)) dX3_enter_82 ?_
                refine lv_iload_n hx hb dX3_enter_85 rfl (lv_at hl 2 rfl) ?_
                refine lv_lload_n hx hb dX3_enter_86 rfl (lv_at hl 1 rfl) ?_
                refine g_last hx hb hK hG mL13 mK13 (k) rfl (by rw [mn13]; omega) (by rw [mn13]; decide) dX3_enter_87 (fun H locs hG => ?_)
                obtain ⟨r2, er2⟩ : ∃ z, z = g_up r1 (bm 13) k v := ⟨_, rfl⟩
                rw [← er2] at hG
                have ho2 : ∀ b, b ≠ bm 13 → r2 b = rJ b := fun b hb => by rw [er2, g_up_other _ _ _ hb]; exact inv.2.1 b hb
                have hfin : Sd (r2 (bm 13)) (mm + 1) ∧ ∀ y, Mb (r2 (bm 13)) (mm + 1) y ↔ (Mb (rJ (bm 13)) mm y ∨ y = v) := ord_ins hsd hkm h1 h2 (fun i hi => by rw [er2, g_up_i _ _ _ _ (by omega)]; exact inv.2.2.1 i (by omega)) (by rw [er2, g_up_at]) (fun i q1 q2 => by rw [er2, g_up_i _ _ _ _ (by omega)]; exact inv.2.2.2 i (by omega) q2)
                refine lv_aload_n hx hb dX3_enter_88 rfl (lv_at hl 0 rfl) ?_
                refine lv_dup hx hb dX3_enter_89 rfl ?_
                refine r_Model_many hx hb hts (by decide +kernel) hown hK hG mL0 mK0 (hts (.fieldLink RX3 142 "DotStoresModel" "many" "I") (by decide +kernel)) dX3_enter_90 ?_
                refine lv_topi (fun z17 ez17 => ?_)
                obtain rfl : z17 = nI mm := ez17.trans (hmany)
                refine lv_iconst (v := 1) hx hb dX3_enter_93 (by decide) ?_
                refine lv_iadd hx hb dX3_enter_94 ?_
                refine lv_topi (fun z18 ez18 => ?_)
                obtain rfl : z18 = nI (mm + 1) := ez18.trans (nI_1 mm)
                refine w_Model_many hx hb hts (by decide +kernel) hown hK hG mL0 mK0 (hts (.fieldLink RX3 142 "DotStoresModel" "many" "I") (by decide +kernel)) dX3_enter_95 (fun H locs hG => ?_)
                refine W.widen (k := 0) (n := 0) (by omega) (by omega) ?_
                exact W.vret hx hb hr (fun t9 h9 hW9 => ⟨⟨(mm + 1, r2, g_up fI (bm 0) 12 (nI (mm + 1))), rfl, ⟨g_up_at _ _ _ _, Nat.le_refl _, fun b hb => g_up_other _ _ _ hb, fun i hi => g_up_i _ _ _ _ hi, ho2, hfin⟩, hG.at h9⟩, hG.2.2.1.F h9⟩) hG.2.2.1.2.2 dX3_enter_98
              · have hwk : k < mm - w := nI_lt_of (by omega) c4
                refine lv_aload_n hx hb dX3_enter_59 rfl (lv_at hl 0 rfl) ?_
                refine r_Model_sorted hx hb hts (by decide +kernel) hown hK hG mL0 mK0 mf13 (hts (.fieldLink RX3 42 "DotStoresModel" "sorted" "[J") (by decide +kernel)) dX3_enter_60 ?_
                refine lv_iload hx hb dX3_enter_63 (lv_at hl 3 rfl) ?_
                refine lv_aload_n hx hb dX3_enter_65 rfl (lv_at hl 0 rfl) ?_
                refine r_Model_sorted hx hb hts (by decide +kernel) hown hK hG mL0 mK0 mf13 (hts (.fieldLink RX3 42 "DotStoresModel" "sorted" "[J") (by decide +kernel)) dX3_enter_66 ?_
                refine lv_iload hx hb dX3_enter_69 (lv_at hl 3 rfl) ?_
                refine lv_iconst (v := 1) hx hb dX3_enter_71 (by decide) ?_
                refine lv_isub hx hb dX3_enter_72 ?_
                refine lv_topi (fun z19 ez19 => ?_)
                obtain rfl : z19 = nI (mm - w - 1) := ez19.trans (nI_pr (by omega))
                refine g_lald hx hb hK hG mL13 mK13 (mm - w - 1) rfl (by rw [mn13]; omega) (by rw [mn13]; decide) dX3_enter_73 ?_
                refine g_last hx hb hK hG mL13 mK13 (mm - w) rfl (by rw [mn13]; omega) (by rw [mn13]; decide) dX3_enter_74 (fun H locs hG => ?_)
                refine lv_iinc (v := (nI (mm - (w + 1)))) (lv' := [(4, .int (nI (mm - (w + 1)))), (0, .ref (bm 0)), (1, .long v), (3, .int (nI k))]) hx hb dX3_enter_75 hl (k := 3) rfl ((nI_mn (show 0 < mm - w by omega)).trans (congrArg nI (by omega))) (by decide) rfl (fun ls hl => ?_)
                refine lv_goto (tgt := 53) hx hb dX3_enter_78 (by decide) ?_
                exact ih (w := w + 1) (hl := (lv_sub hl [1, 2, 3, 0] rfl)) (hG := hG) (inv := ⟨by omega, fun b hb => by rw [g_up_other _ _ _ hb]; exact inv.2.1 b hb, fun i hi => by rw [g_up_i _ _ _ _ (by omega)]; exact inv.2.2.1 i (by omega), fun i q1 q2 => by
                    rcases Nat.eq_or_lt_of_le (show mm - w ≤ i by omega) with q | q
                    · subst q; rw [g_up_at]; exact inv.2.2.1 _ (by omega)
                    · rw [g_up_i _ _ _ _ (by omega)]; exact inv.2.2.2 i q q2⟩) (hf := by omega)
          · have c3 : rJ (bm 13) k = v := (lg_cmp_eq _ _).mp (by first | exact c3 | exact Classical.not_not.mp c3)
            refine W.widen (k := 0) (n := 0) (by omega) (by omega) ?_
            exact W.vret hx hb hr (fun t9 h9 hW9 => ⟨⟨(mm, rJ, fI), rfl, ⟨hmany, by omega, fun _ _ => rfl, fun _ _ => rfl, fun _ _ => rfl, hsd, ord_has hkl c3⟩, hG.at h9⟩, hG.2.2.1.F h9⟩) hG.2.2.1.2.2 dX3_enter_46
      · have c1 : rJ (bm 13) k < v := (lg_cmp_lt _ _).mp (Int32.not_le.mp c1)
        refine lv_iinc (v := (nI (k + 1))) (lv' := [(3, .int (nI (k + 1))), (0, .ref (bm 0)), (1, .long v)]) hx hb dX3_enter_21 hl (k := 2) rfl (nI_1 k) (by decide) rfl (fun ls hl => ?_)
        refine lv_goto (tgt := 2) hx hb dX3_enter_24 (by decide) ?_
        exact ih (k := k + 1) (hl := (lv_sub hl [1, 2, 0] rfl)) (hG := hG) (inv := ⟨by omega, fun i hi => (Nat.lt_succ_iff_lt_or_eq.mp hi).elim (inv.2 i) (fun q => by rw [q]; exact c1)⟩) (hf := by omega)
/-- the values of the LIVE dots of a key, in order, each once, as the reference lays them -/
def OrdB (β : bT) (r : Nat) (key : Int32) (f : Nat → Int64) (m : Nat) : Prop := Sd f m ∧ ∀ y, Mb f m y ↔ ∃ i, i < 600 ∧ livB β r key (-1) (-1) i = true ∧ valB β i = y
set_option maxHeartbeats 4000000 in
set_option maxRecDepth 100000 in
/-- lay -/
theorem k_lay (l : Launch) (G : gG) (base : Nat) {L : List Nat} {K n : Nat → Nat} {rI : Nat → Nat → Int32} {rJ : Nat → Nat → Int64} {rQ : Nat → Nat → Option Nat} {fI : Nat → Nat → Int32} {fR : Nat → Nat → Option Nat} {bm : Nat → Nat} {β : bT} (hM : RepM (L, K, n, rI, rJ, rQ, fI, fR) bm β) {q : Nat} {key : Int32} (hq : q < 6) : Met l yX3_lay wsX3_lay ({ frames := 1, cells := 0, slots := 0, locals := 24 }) (va_Pc [.ref (bm 0), .int (nI q), .int key] (g_Pr G base (L, K, n, rI, rJ, rQ, fI, fR))) (g_Qv G base (fun u : Nat × (Nat → Nat → Int64) × (Nat → Nat → Int32) => (L, K, n, rI, u.2.1, rQ, u.2.2, fR)) (fun u => u.2.2 (bm 0) 12 = nI u.1 ∧ u.1 ≤ 600 ∧ u.2.2 (bm 0) 0 = fI (bm 0) 0 ∧ OrdB β q key (u.2.1 (bm 13)) u.1 ∧ StpM (L, K, n, rI, rJ, rQ, fI, fR) bm (L, K, n, rI, u.2.1, rQ, u.2.2, fR) β)) 0 0 (g_A base) := by
  have hMd : isMd L K n fR bm := hM.1
  have hMd0 := hMd
  obtain ⟨minj, mL0, mK0, ⟨mf2, mf3, mf4, mf5, mf6, mf7, mf8, mf9, mf10, mf11, mf13⟩, ⟨mL2, mK2, mn2⟩, ⟨mL3, mK3, mn3⟩, ⟨mL4, mK4, mn4⟩, ⟨mL5, mK5, mn5⟩, ⟨mL6, mK6, mn6⟩, ⟨mL7, mK7, mn7⟩, ⟨mL8, mK8, mn8⟩, ⟨mL9, mK9, mn9⟩, ⟨mL10, mK10, mn10⟩, ⟨mL11, mK11, mn11⟩, ⟨mL13, mK13, mn13⟩⟩ := hMd0
  have hdl : fI (bm 0) 1 = nI (b_nd β) := hM.2.1.1
  have hnd : b_nd β ≤ 250 := hM.2.1.2
  refine Met.ofW (cc := cX3_lay) (maxL := 6) (ret := none) (by decide) rfl ?_
  intro p e s m args below meth c s₁ B hml hv
  obtain ⟨rfl, hPr⟩ := hv
  have hx := B.exec
  have hb := B.bytes
  have hr := B.returns
  have hts := atoms_spec (ws := wsX3_lay) B.pre
  have hown : s.vm.findClass RX3 = some m.cls := findClass_of_methodNamed B.named
  have hlocks := B.notSynchronized
  have hin : meth.name = "lay" := (name_of_methodNamed B.named B.method).1
  have hK := hPr.2.2
  have hG := hPr.gw
  have hl := lv_entry ([.ref (bm 0), .int (nI q), .int key]) (n := 6) (Nat.le_of_ble_eq_true rfl)
  rw [lg_entry_eq]
  generalize (lg_sl ([.ref (bm 0), .int (nI q), .int key]) ++ List.replicate (6 - (lg_sl ([.ref (bm 0), .int (nI q), .int key])).length) Slot.unset).toArray = ls at hl ⊢
  have hl : lv_has ls 6 [(0, .ref (bm 0)), (1, .int (nI q)), (2, .int key)] := hl
  refine g_start hPr (fun H locs hG => ?_)
  refine lv_aload_n hx hb dX3_lay_0 rfl (lv_at hl 0 rfl) ?_
  refine lv_iconst (v := 0) hx hb dX3_lay_1 (by decide) ?_
  refine w_Model_many hx hb hts (by decide +kernel) hown hK hG mL0 mK0 (hts (.fieldLink RX3 142 "DotStoresModel" "many" "I") (by decide +kernel)) dX3_lay_2 (fun H locs hG => ?_)
  obtain ⟨f0, ef0⟩ : ∃ z, z = g_up fI (bm 0) 12 0 := ⟨_, rfl⟩
  replace hG : gw G base s.heap (L, K, n, rI, rJ, rQ, f0, fR) H locs := by rw [ef0]; exact hG
  refine lv_iconst (v := 0) hx hb dX3_lay_5 (by decide) ?_
  refine lv_istore_n (lv' := [(3, .int 0), (0, .ref (bm 0)), (1, .int (nI q)), (2, .int key)]) hx hb dX3_lay_6 rfl hl (by decide) rfl (fun ls hl => ?_)
  obtain ⟨w, ew⟩ : ∃ z : Nat, z = 0 := ⟨_, rfl⟩
  obtain ⟨mm, emm⟩ : ∃ z : Nat, z = 0 := ⟨_, rfl⟩
  obtain ⟨r1, er1⟩ : ∃ z : Nat → Nat → Int64, z = rJ := ⟨_, rfl⟩
  obtain ⟨f9, ef9⟩ : ∃ z : Nat → Nat → Int32, z = f0 := ⟨_, rfl⟩
  replace hl : lv_has ls 6 [(0, .ref (bm 0)), (1, .int (nI q)), (2, .int key), (3, .int (nI w))] := by subst ew emm er1 ef9; exact (lv_sub hl [1, 2, 3, 0] rfl)
  replace hG : gw G base s.heap (L, K, n, rI, r1, rQ, f9, fR) H locs := by subst ew emm er1 ef9; exact hG
  have inv : w ≤ 6 ∧ mm ≤ 100 * w ∧ f9 (bm 0) 12 = nI mm ∧ (∀ b, b ≠ bm 0 → f9 b = fI b) ∧ (∀ i, i ≠ 12 → f9 (bm 0) i = fI (bm 0) i) ∧ (∀ b, b ≠ bm 13 → r1 b = rJ b) ∧ Sd (r1 (bm 13)) mm ∧ ∀ y, Mb (r1 (bm 13)) mm y ↔ ∃ i, i < 100 * w ∧ livB β q key (-1) (-1) i = true ∧ valB β i = y := by
    subst ew emm er1 ef9
    exact ⟨by omega, by omega, by rw [ef0, g_up_at]; rfl, fun b hb => by rw [ef0, g_up_other _ _ _ hb], fun i hi => by rw [ef0, g_up_i _ _ _ _ hi], fun _ _ => rfl, fun i j h1 h2 => absurd h2 (Nat.not_lt_zero j), fun y => ⟨fun ⟨i, hi, _⟩ => absurd hi (Nat.not_lt_zero i), fun ⟨i, hi, _⟩ => absurd hi (Nat.not_lt_zero i)⟩⟩
  have hf : 6 < w + 7 := by omega
  clear ew emm er1 ef9
  generalize 7 = d at hf
  induction d generalizing w mm r1 f9 H locs ls with
  | zero => exact absurd hf (by have := inv.1; omega)
  | succ d ih =>
    refine lv_iload_n hx hb dX3_lay_7 rfl (lv_at hl 3 rfl) ?_
    refine lv_bipush (v := 6) hx hb dX3_lay_8 (by decide) ?_
    refine lv_icmp_ge (tgt := 79) hx hb dX3_lay_10 (by decide) (fun c0 => ?_) (fun c0 => ?_)
    · have hw : w = 6 := by
        rcases Nat.lt_or_ge w 6 with q | q
        · exact absurd c0 (nI_ge q (by decide))
        · omega
      subst hw
      refine W.widen (k := 0) (n := 0) (by omega) (by omega) ?_
      exact W.vret hx hb hr (fun t9 h9 hW9 => ⟨⟨(mm, r1, f9), rfl, ⟨inv.2.2.1, inv.2.1, inv.2.2.2.2.1 0 (by decide), inv.2.2.2.2.2.2, StpM.tr (repM_F0 hM (inv.2.2.2.2.1 1 (by decide)) inv.2.2.2.1) (repM_O (repM_F0 hM (inv.2.2.2.2.1 1 (by decide)) inv.2.2.2.1).1 inv.2.2.2.2.2.1)⟩, hG.at h9⟩, hG.2.2.1.F h9⟩) hG.2.2.1.2.2 dX3_lay_79
    · have hw : w < 6 := by
        rcases Nat.lt_or_ge w 6 with q | q
        · exact q
        · exact absurd (nI_le (a := 6) q (by omega)) c0
      refine lv_iconst (v := 1) hx hb dX3_lay_13 (by decide) ?_
      refine lv_istore (lv' := [(4, .int 1), (0, .ref (bm 0)), (1, .int (nI q)), (2, .int key), (3, .int (nI w))]) hx hb dX3_lay_14 hl (by decide) rfl (fun ls hl => ?_)
      have hf0 := hf
      clear hf
      obtain ⟨vv, evv⟩ : ∃ z : Nat, z = 0 := ⟨_, rfl⟩
      obtain ⟨mm2, emm2⟩ : ∃ z : Nat, z = mm := ⟨_, rfl⟩
      obtain ⟨r12, er12⟩ : ∃ z : Nat → Nat → Int64, z = r1 := ⟨_, rfl⟩
      obtain ⟨f92, ef92⟩ : ∃ z : Nat → Nat → Int32, z = f9 := ⟨_, rfl⟩
      replace hl : lv_has ls 6 [(0, .ref (bm 0)), (1, .int (nI q)), (2, .int key), (3, .int (nI w)), (4, .int (nI (vv + 1)))] := by subst evv emm2 er12 ef92; exact (lv_sub hl [1, 2, 3, 4, 0] rfl)
      replace hG : gw G base s.heap (L, K, n, rI, r12, rQ, f92, fR) H locs := by subst evv emm2 er12 ef92; exact hG
      have inv2 : vv ≤ 100 ∧ mm2 ≤ 100 * w + vv ∧ f92 (bm 0) 12 = nI mm2 ∧ (∀ b, b ≠ bm 0 → f92 b = fI b) ∧ (∀ i, i ≠ 12 → f92 (bm 0) i = fI (bm 0) i) ∧ (∀ b, b ≠ bm 13 → r12 b = rJ b) ∧ Sd (r12 (bm 13)) mm2 ∧ ∀ y, Mb (r12 (bm 13)) mm2 y ↔ ∃ i, i < 100 * w + vv ∧ livB β q key (-1) (-1) i = true ∧ valB β i = y := by
        subst evv emm2 er12 ef92
        exact ⟨by omega, inv.2⟩
      have hf : 100 < vv + 101 := by omega
      clear evv emm2 er12 ef92
      generalize 101 = d2 at hf
      induction d2 generalizing vv mm2 r12 f92 H locs ls with
      | zero => exact absurd hf (by have := inv2.1; omega)
      | succ d2 ih2 =>
        refine lv_iload hx hb dX3_lay_16 (lv_at hl 4 rfl) ?_
        refine lv_bipush (v := 100) hx hb dX3_lay_18 (by decide) ?_
        refine lv_icmp_gt (tgt := 73) hx hb dX3_lay_20 (by decide) (fun cg => ?_) (fun cg => ?_)
        · have hvv : vv = 100 := by
            have := (nI_ltI (a := 100) (b := vv + 1) (by decide) (by have := inv2.1; omega)).mp cg
            have := inv2.1
            omega
          subst hvv
          refine lv_iinc (v := (nI (w + 1))) (lv' := [(3, .int (nI (w + 1))), (0, .ref (bm 0)), (1, .int (nI q)), (2, .int key), (4, .int (nI (100 + 1)))]) hx hb dX3_lay_73 hl (k := 3) rfl (nI_1 w) (by decide) rfl (fun ls hl => ?_)
          refine lv_goto (tgt := 7) hx hb dX3_lay_76 (by decide) ?_
          exact ih (w := w + 1) (mm := mm2) (r1 := r12) (f9 := f92) (hl := (lv_sub hl [1, 2, 3, 0] rfl)) (hG := hG) (inv := (by have z9 := inv2.2; rw [show 100 * w + 100 = 100 * (w + 1) by omega] at z9; exact ⟨by omega, z9⟩)) (hf := by omega)
        · have hvv : vv < 100 := by
            rcases Nat.lt_or_ge vv 100 with z | z
            · exact z
            · exact absurd ((nI_ltI (a := 100) (b := vv + 1) (by decide) (by have := inv2.1; omega)).mpr (by omega)) cg
          refine lv_iload_n hx hb dX3_lay_23 rfl (lv_at hl 3 rfl) ?_
          refine lv_iload hx hb dX3_lay_24 (lv_at hl 4 rfl) ?_
          refine g_calli (va_runS (As := [.int (nI w), .int (nI (vv + 1))]) (rest := []) ⟨hx, hb, hml, hown, hts⟩ (k_dot l G base (q := w) (m1 := vv + 1)) (cwS 2 hts gX3_lay_X3_dot rfl rfl rfl (by decide +kernel) ⟨(Nat.le_of_ble_eq_true rfl), (Nat.le_of_ble_eq_true rfl)⟩) (g_ps hK hG) rfl rfl hl.1 rfl (lv_room (Nat.le_of_ble_eq_true rfl)) dX3_lay_26 ⟨(Nat.le_of_ble_eq_true rfl), (Nat.le_of_ble_eq_true rfl)⟩) hG (fun y0 _ H locs hp hG => ?_)
          subst hp
          refine lv_istore (lv' := [(5, .int (nI (101 * w + (vv + 1)))), (0, .ref (bm 0)), (1, .int (nI q)), (2, .int key), (3, .int (nI w)), (4, .int (nI (vv + 1)))]) hx hb dX3_lay_29 hl (by decide) rfl (fun ls hl => ?_)
          refine lv_aload_n hx hb dX3_lay_31 rfl (lv_at hl 1 rfl) ?_
          refine r_Model_live hx hb hts (by decide +kernel) hown hK hG mL0 mK0 mf3 (hts (.fieldLink RX3 13 "DotStoresModel" "live" "[J") (by decide +kernel)) dX3_lay_32 ?_
          refine lv_iload_n hx hb dX3_lay_35 rfl (lv_at hl 2 rfl) ?_
          refine lv_iload_n hx hb dX3_lay_36 rfl (lv_at hl 4 rfl) ?_
          refine lv_iload hx hb dX3_lay_37 (lv_at hl 5 rfl) ?_
          refine g_calli (va_runS (As := [.ref (bm 3), .int (nI q), .int (nI w), .int (nI (vv + 1))]) (rest := []) ⟨hx, hb, hml, hown, hts⟩ (k_isSet l G base (k := q) (q := w) (pp := vv) mL3 mK3 mn3 (show q < 257 by omega) (by omega) (by omega)) (cwS 4 hts gX3_lay_X3_isSet rfl rfl rfl (by decide +kernel) ⟨(Nat.le_of_ble_eq_true rfl), (Nat.le_of_ble_eq_true rfl)⟩) (g_ps hK hG) rfl rfl hl.1 rfl (lv_room (Nat.le_of_ble_eq_true rfl)) dX3_lay_39 ⟨(Nat.le_of_ble_eq_true rfl), (Nat.le_of_ble_eq_true rfl)⟩) hG (fun y1 _ H locs hp hG => ?_)
          have hp : y1 = bi (b_L β q (128 * w + vv)) := by
            rw [hp, inv2.2.2.2.2.2.1 _ (isMd_ne hMd (show okM 3 by decide) (show okM 13 by decide) (by decide))]
            exact congrArg bi (repM_L hM (show q < 257 by omega) (by omega) (by omega))
          subst hp
          refine lv_if_eq (tgt := 67) hx hb dX3_lay_42 (by decide) (fun d1 => ?_) (fun d1 => ?_)
          · have d1 := bi_0.mp d1
            have hlv : livB β q key (-1) (-1) (100 * w + vv) = false := by rw [livB_at hvv]; simp [d1]
            refine lv_iinc (v := (nI (vv + 1 + 1))) (lv' := [(4, .int (nI (vv + 1 + 1))), (5, .int (nI (101 * w + (vv + 1)))), (0, .ref (bm 0)), (1, .int (nI q)), (2, .int key), (3, .int (nI w))]) hx hb dX3_lay_67 hl (k := 5) rfl (nI_1 (vv + 1)) (by decide) rfl (fun ls hl => ?_)
            refine lv_goto (tgt := 16) hx hb dX3_lay_70 (by decide) ?_
            exact ih2 (vv := vv + 1) (mm2 := mm2) (r12 := r12) (f92 := f92) (hl := (lv_sub hl [2, 3, 4, 5, 0] rfl)) (hG := hG) (inv2 := ⟨by omega, by have := inv2.2.1; omega, inv2.2.2.1, inv2.2.2.2.1, inv2.2.2.2.2.1, inv2.2.2.2.2.2.1, inv2.2.2.2.2.2.2.1, fun y => (inv2.2.2.2.2.2.2.2 y).trans ⟨fun z => ex_s.mpr (Or.inl z), fun z => (ex_s.mp z).elim id (fun q => absurd (hlv.symm.trans q.1) (by decide))⟩⟩) (hf := by omega)
          · have d1 := ts_nf (fun z => d1 (bi_0.mpr z))
            refine lv_aload_n hx hb dX3_lay_45 rfl (lv_at hl 1 rfl) ?_
            refine r_Model_dotKey hx hb hts (by decide +kernel) hown hK hG mL0 mK0 mf9 (hts (.fieldLink RX3 33 "DotStoresModel" "dotKey" "[I") (by decide +kernel)) dX3_lay_46 ?_
            refine lv_iload hx hb dX3_lay_49 (lv_at hl 0 rfl) ?_
            refine g_iald hx hb hK hG mL9 mK9 (101 * w + (vv + 1)) rfl (by rw [mn9]; omega) (by rw [mn9]; decide) dX3_lay_51 ?_
            refine lv_topi (fun z1 ez1 => ?_)
            obtain rfl : z1 = b_key β (101 * w + (vv + 1)) := ez1.trans ((hM.2.2.2.2.2 _ (by omega)).1)
            refine lv_iload_n hx hb dX3_lay_52 rfl (lv_at hl 3 rfl) ?_
            refine lv_icmp_ne (tgt := 67) hx hb dX3_lay_53 (by decide) (fun d2 => ?_) (fun d2 => ?_)
            · have hlv : livB β q key (-1) (-1) (100 * w + vv) = false := by rw [livB_at hvv]; simp [d2]
              refine lv_iinc (v := (nI (vv + 1 + 1))) (lv' := [(4, .int (nI (vv + 1 + 1))), (5, .int (nI (101 * w + (vv + 1)))), (0, .ref (bm 0)), (1, .int (nI q)), (2, .int key), (3, .int (nI w))]) hx hb dX3_lay_67 hl (k := 5) rfl (nI_1 (vv + 1)) (by decide) rfl (fun ls hl => ?_)
              refine lv_goto (tgt := 16) hx hb dX3_lay_70 (by decide) ?_
              exact ih2 (vv := vv + 1) (mm2 := mm2) (r12 := r12) (f92 := f92) (hl := (lv_sub hl [2, 3, 4, 5, 0] rfl)) (hG := hG) (inv2 := ⟨by omega, by have := inv2.2.1; omega, inv2.2.2.1, inv2.2.2.2.1, inv2.2.2.2.2.1, inv2.2.2.2.2.2.1, inv2.2.2.2.2.2.2.1, fun y => (inv2.2.2.2.2.2.2.2 y).trans ⟨fun z => ex_s.mpr (Or.inl z), fun z => (ex_s.mp z).elim id (fun q => absurd (hlv.symm.trans q.1) (by decide))⟩⟩) (hf := by omega)
            · have d2 := (by first | exact d2 | exact Classical.not_not.mp d2)
              have hlv : livB β q key (-1) (-1) (100 * w + vv) = true := by rw [livB_at hvv, d1, decide_eq_true ⟨d2, Or.inl rfl, Or.inl rfl⟩]; rfl
              refine lv_aload_n hx hb dX3_lay_56 rfl (lv_at hl 1 rfl) ?_
              refine lv_aload_n hx hb dX3_lay_57 rfl (lv_at hl 1 rfl) ?_
              refine r_Model_dotValue hx hb hts (by decide +kernel) hown hK hG mL0 mK0 mf11 (hts (.fieldLink RX3 39 "DotStoresModel" "dotValue" "[J") (by decide +kernel)) dX3_lay_58 ?_
              refine lv_iload hx hb dX3_lay_61 (lv_at hl 0 rfl) ?_
              refine g_lald hx hb hK hG mL11 mK11 (101 * w + (vv + 1)) rfl (by rw [mn11]; omega) (by rw [mn11]; decide) dX3_lay_63 ?_
              refine lv_topl (fun z2 ez2 => ?_)
              obtain rfl : z2 = b_val β (101 * w + (vv + 1)) := ez2.trans ((by rw [inv2.2.2.2.2.2.1 _ (isMd_ne hMd (show okM 11 by decide) (show okM 13 by decide) (by decide))]; exact (hM.2.2.2.2.2 _ (by omega)).2.2))
              refine g_callv (va_runV (As := [.long (b_val β (101 * w + (vv + 1)))]) (rest := []) ⟨hx, hb, hml, hown, hts⟩ (k_enter l G base hMd (v := b_val β (101 * w + (vv + 1))) (mm := mm2) (by have := inv2.2.1; omega) inv2.2.2.1 inv2.2.2.2.2.2.2.1) (cwV 1 hts gX3_lay_X3_enter rfl rfl rfl (by decide +kernel) ⟨(Nat.le_of_ble_eq_true rfl), (Nat.le_of_ble_eq_true rfl)⟩) (g_pv3 hK hG mL0 mK0) rfl rfl hl.1 rfl (lv_room (Nat.le_of_ble_eq_true rfl)) dX3_lay_64 ⟨(Nat.le_of_ble_eq_true rfl), (Nat.le_of_ble_eq_true rfl)⟩) hG (fun u H locs hp hG => ?_)
              obtain ⟨m5, r5, f5⟩ := u
              obtain ⟨p1, p2, p3, p4, p5, p6, p7⟩ := hp
              replace hG : gw G base s.heap (L, K, n, rI, r5, rQ, f5, fR) H locs := hG
              replace p2 : m5 ≤ mm2 + 1 := p2
              refine lv_iinc (v := (nI (vv + 1 + 1))) (lv' := [(4, .int (nI (vv + 1 + 1))), (5, .int (nI (101 * w + (vv + 1)))), (0, .ref (bm 0)), (1, .int (nI q)), (2, .int key), (3, .int (nI w))]) hx hb dX3_lay_67 hl (k := 5) rfl (nI_1 (vv + 1)) (by decide) rfl (fun ls hl => ?_)
              refine lv_goto (tgt := 16) hx hb dX3_lay_70 (by decide) ?_
              exact ih2 (vv := vv + 1) (mm2 := m5) (r12 := r5) (f92 := f5) (hl := (lv_sub hl [2, 3, 4, 5, 0] rfl)) (hG := hG) (inv2 := ⟨by omega, by have := inv2.2.1; have := p2; omega, p1, fun b hb => (p3 b hb).trans (inv2.2.2.2.1 b hb), fun i hi => (p4 i hi).trans (inv2.2.2.2.2.1 i hi), fun b hb => (p5 b hb).trans (inv2.2.2.2.2.2.1 b hb), p6, fun y => (p7 y).trans ((or_congr (inv2.2.2.2.2.2.2.2 y) ⟨fun q => ⟨hlv, by unfold valB; rw [plc_at hvv]; exact q.symm⟩, fun q => by have q2 := q.2; unfold valB at q2; rw [plc_at hvv] at q2; exact q2.symm⟩).trans ex_s.symm)⟩) (hf := by omega)
set_option maxHeartbeats 4000000 in
set_option maxRecDepth 100000 in
/-- values -/
theorem k_values (l : Launch) (G : gG) (base : Nat) {L : List Nat} {K n : Nat → Nat} {rI : Nat → Nat → Int32} {rJ : Nat → Nat → Int64} {rQ : Nat → Nat → Option Nat} {fI : Nat → Nat → Int32} {fR : Nat → Nat → Option Nat} {bm : Nat → Nat} {β : bT} (hM : RepM (L, K, n, rI, rJ, rQ, fI, fR) bm β) {v key : Int32} : Met l yX3_values wsX3_values ({ frames := 2, cells := 0, slots := 0, locals := 49 }) (va_Pc [.ref (bm 0), .int v, .int key] (g_Pr G base (L, K, n, rI, rJ, rQ, fI, fR))) (g_Qi G base (fun u : (Nat × (Nat → Nat → Int64) × (Nat → Nat → Int32)) × Nat => (L, K, n, rI, u.1.2.1, rQ, u.1.2.2, fR)) (fun x u => ((u.1.2.2 (bm 0) 0 = 0 ∧ (u.2 < 6 ∧ v = nI u.2) ∧ okI key 16 ∧ x = nI u.1.1 ∧ u.1.1 ≤ 600 ∧ OrdB β u.2 key (u.1.2.1 (bm 13)) u.1.1) ∨ (u.1.2.2 (bm 0) 0 = 1 ∧ ¬ (okI v 6 ∧ okI key 16))) ∧ StpM (L, K, n, rI, rJ, rQ, fI, fR) bm (L, K, n, rI, u.1.2.1, rQ, u.1.2.2, fR) β)) 0 0 (g_A base) := by
  have hMd : isMd L K n fR bm := hM.1
  have hMd0 := hMd
  obtain ⟨minj, mL0, mK0, ⟨mf2, mf3, mf4, mf5, mf6, mf7, mf8, mf9, mf10, mf11, mf13⟩, ⟨mL2, mK2, mn2⟩, ⟨mL3, mK3, mn3⟩, ⟨mL4, mK4, mn4⟩, ⟨mL5, mK5, mn5⟩, ⟨mL6, mK6, mn6⟩, ⟨mL7, mK7, mn7⟩, ⟨mL8, mK8, mn8⟩, ⟨mL9, mK9, mn9⟩, ⟨mL10, mK10, mn10⟩, ⟨mL11, mK11, mn11⟩, ⟨mL13, mK13, mn13⟩⟩ := hMd0
  have hdl : fI (bm 0) 1 = nI (b_nd β) := hM.2.1.1
  have hnd : b_nd β ≤ 250 := hM.2.1.2
  refine Met.ofW (cc := cX3_values) (maxL := 3) (ret := (some .int)) (by decide) rfl ?_
  intro p e s m args below meth c s₁ B hml hv
  obtain ⟨rfl, hPr⟩ := hv
  have hx := B.exec
  have hb := B.bytes
  have hr := B.returns
  have hts := atoms_spec (ws := wsX3_values) B.pre
  have hown : s.vm.findClass RX3 = some m.cls := findClass_of_methodNamed B.named
  have hlocks := B.notSynchronized
  have hin : meth.name = "values" := (name_of_methodNamed B.named B.method).1
  have hK := hPr.2.2
  have hG := hPr.gw
  have hl := lv_entry ([.ref (bm 0), .int v, .int key]) (n := 3) (Nat.le_of_ble_eq_true rfl)
  rw [lg_entry_eq]
  generalize (lg_sl ([.ref (bm 0), .int v, .int key]) ++ List.replicate (3 - (lg_sl ([.ref (bm 0), .int v, .int key])).length) Slot.unset).toArray = ls at hl ⊢
  have hl : lv_has ls 3 [(0, .ref (bm 0)), (1, .int v), (2, .int key)] := hl
  refine g_start hPr (fun H locs hG => ?_)
  refine lv_aload_n hx hb dX3_values_0 rfl (lv_at hl 0 rfl) ?_
  refine lv_aload_n hx hb dX3_values_1 rfl (lv_at hl 0 rfl) ?_
  refine lv_iload_n hx hb dX3_values_2 rfl (lv_at hl 1 rfl) ?_
  refine g_calli (va_runV (As := [.int v]) (rest := [.ref (bm 0)]) ⟨hx, hb, hml, hown, hts⟩ (k_isReplica l G base (v := v) (a := bm 0)) (cwV 1 hts gX3_values_X3_isReplica rfl rfl rfl (by decide +kernel) ⟨(Nat.le_of_ble_eq_true rfl), (Nat.le_of_ble_eq_true rfl)⟩) (g_pv3 hK hG mL0 mK0) rfl rfl hl.1 rfl (lv_room (Nat.le_of_ble_eq_true rfl)) dX3_values_3 ⟨(Nat.le_of_ble_eq_true rfl), (Nat.le_of_ble_eq_true rfl)⟩) hG (fun y1 b1 H locs hp hG => ?_)
  obtain ⟨e9, h1⟩ := hp
  subst e9
  refine lv_if_eq (tgt := 20) hx hb dX3_values_6 (by decide) (fun c1 => ?_) (fun c1 => ?_)
  · have hno : ¬ (okI v 6 ∧ okI key 16) := fun z => absurd ((bi_0.mp c1).symm.trans (h1.mpr z.1)) (by decide)
    refine lv_iconst (v := 0) hx hb dX3_values_20 (by decide) ?_
    refine g_calli (va_runV (As := [.int 0]) (rest := []) ⟨hx, hb, hml, hown, hts⟩ (k_goes l G base hM (g := false)) (cwV 1 hts gX3_values_X3_goes rfl rfl rfl (by decide +kernel) ⟨(Nat.le_of_ble_eq_true rfl), (Nat.le_of_ble_eq_true rfl)⟩) (g_pv3 hK hG mL0 mK0) rfl rfl hl.1 rfl (lv_room (Nat.le_of_ble_eq_true rfl)) dX3_values_21 ⟨(Nat.le_of_ble_eq_true rfl), (Nat.le_of_ble_eq_true rfl)⟩) hG (fun y5 _ H locs hp hG => ?_)
    obtain ⟨f1, ef1⟩ : ∃ z, z = g_up fI (bm 0) 0 (bi (!false)) := ⟨_, rfl⟩
    replace hG : gw G base s.heap (L, K, n, rI, rJ, rQ, f1, fR) H locs := by rw [ef1]; exact hG
    have hT1 : StpM (L, K, n, rI, rJ, rQ, fI, fR) bm (L, K, n, rI, rJ, rQ, f1, fR) β := repM_F0 hM (by rw [ef1, g_up_i _ _ _ _ (by decide)]) (fun b hb => by rw [ef1, g_up_other _ _ _ hb])
    have hf1 : f1 (bm 0) 0 = 1 := by rw [ef1, g_up_at]; rfl
    subst hp
    refine lv_if_ne (tgt := 29) hx hb dX3_values_24 (by decide) (fun c8 => ?_) (fun c8 => ?_)
    · exact absurd rfl c8
    · refine lv_iconst (v := 0) hx hb dX3_values_27 (by decide) ?_
      refine W.widen (k := 0) (n := 0) (by omega) (by omega) ?_
      exact W.iret (v := 0) hx hb hr (fun t9 h9 hW9 => ⟨⟨0, ((0, rJ, f1), 0), rfl, ⟨Or.inr ⟨hf1, hno⟩, hT1⟩, hG.at h9⟩, hG.2.2.1.F h9⟩) hG.2.2.1.2.2 dX3_values_28
  · obtain ⟨q, hq, rfl⟩ := h1.mp (ts_nf (fun z => c1 (bi_0.mpr z)))
    refine lv_iload_n hx hb dX3_values_9 rfl (lv_at hl 2 rfl) ?_
    refine g_calli (va_runS (As := [.int key]) (rest := [.ref (bm 0)]) ⟨hx, hb, hml, hown, hts⟩ (k_isKey l G base (v := key)) (cwS 1 hts gX3_values_X3_isKey rfl rfl rfl (by decide +kernel) ⟨(Nat.le_of_ble_eq_true rfl), (Nat.le_of_ble_eq_true rfl)⟩) (g_ps hK hG) rfl rfl hl.1 rfl (lv_room (Nat.le_of_ble_eq_true rfl)) dX3_values_10 ⟨(Nat.le_of_ble_eq_true rfl), (Nat.le_of_ble_eq_true rfl)⟩) hG (fun y2 b2 H locs hp hG => ?_)
    obtain ⟨e9, h2⟩ := hp
    subst e9
    refine lv_if_eq (tgt := 20) hx hb dX3_values_13 (by decide) (fun c2 => ?_) (fun c2 => ?_)
    · have hno : ¬ (okI (nI q) 6 ∧ okI key 16) := fun z => absurd ((bi_0.mp c2).symm.trans (h2.mpr z.2)) (by decide)
      refine lv_iconst (v := 0) hx hb dX3_values_20 (by decide) ?_
      refine g_calli (va_runV (As := [.int 0]) (rest := []) ⟨hx, hb, hml, hown, hts⟩ (k_goes l G base hM (g := false)) (cwV 1 hts gX3_values_X3_goes rfl rfl rfl (by decide +kernel) ⟨(Nat.le_of_ble_eq_true rfl), (Nat.le_of_ble_eq_true rfl)⟩) (g_pv3 hK hG mL0 mK0) rfl rfl hl.1 rfl (lv_room (Nat.le_of_ble_eq_true rfl)) dX3_values_21 ⟨(Nat.le_of_ble_eq_true rfl), (Nat.le_of_ble_eq_true rfl)⟩) hG (fun y5 _ H locs hp hG => ?_)
      obtain ⟨f1, ef1⟩ : ∃ z, z = g_up fI (bm 0) 0 (bi (!false)) := ⟨_, rfl⟩
      replace hG : gw G base s.heap (L, K, n, rI, rJ, rQ, f1, fR) H locs := by rw [ef1]; exact hG
      have hT1 : StpM (L, K, n, rI, rJ, rQ, fI, fR) bm (L, K, n, rI, rJ, rQ, f1, fR) β := repM_F0 hM (by rw [ef1, g_up_i _ _ _ _ (by decide)]) (fun b hb => by rw [ef1, g_up_other _ _ _ hb])
      have hf1 : f1 (bm 0) 0 = 1 := by rw [ef1, g_up_at]; rfl
      subst hp
      refine lv_if_ne (tgt := 29) hx hb dX3_values_24 (by decide) (fun c8 => ?_) (fun c8 => ?_)
      · exact absurd rfl c8
      · refine lv_iconst (v := 0) hx hb dX3_values_27 (by decide) ?_
        refine W.widen (k := 0) (n := 0) (by omega) (by omega) ?_
        exact W.iret (v := 0) hx hb hr (fun t9 h9 hW9 => ⟨⟨0, ((0, rJ, f1), 0), rfl, ⟨Or.inr ⟨hf1, hno⟩, hT1⟩, hG.at h9⟩, hG.2.2.1.F h9⟩) hG.2.2.1.2.2 dX3_values_28
    · have hkey := h2.mp (ts_nf (fun z => c2 (bi_0.mpr z)))
      refine lv_iconst (v := 1) hx hb dX3_values_16 (by decide) ?_
      refine lv_goto (tgt := 21) hx hb dX3_values_17 (by decide) ?_
      refine g_calli (va_runV (As := [.int 1]) (rest := []) ⟨hx, hb, hml, hown, hts⟩ (k_goes l G base hM (g := true)) (cwV 1 hts gX3_values_X3_goes rfl rfl rfl (by decide +kernel) ⟨(Nat.le_of_ble_eq_true rfl), (Nat.le_of_ble_eq_true rfl)⟩) (g_pv3 hK hG mL0 mK0) rfl rfl hl.1 rfl (lv_room (Nat.le_of_ble_eq_true rfl)) dX3_values_21 ⟨(Nat.le_of_ble_eq_true rfl), (Nat.le_of_ble_eq_true rfl)⟩) hG (fun y5 _ H locs hp hG => ?_)
      obtain ⟨f1, ef1⟩ : ∃ z, z = g_up fI (bm 0) 0 (bi (!true)) := ⟨_, rfl⟩
      replace hG : gw G base s.heap (L, K, n, rI, rJ, rQ, f1, fR) H locs := by rw [ef1]; exact hG
      have hT1 : StpM (L, K, n, rI, rJ, rQ, fI, fR) bm (L, K, n, rI, rJ, rQ, f1, fR) β := repM_F0 hM (by rw [ef1, g_up_i _ _ _ _ (by decide)]) (fun b hb => by rw [ef1, g_up_other _ _ _ hb])
      have hf1 : f1 (bm 0) 0 = 0 := by rw [ef1, g_up_at]; rfl
      subst hp
      refine lv_if_ne (tgt := 29) hx hb dX3_values_24 (by decide) (fun c8 => ?_) (fun c8 => ?_)
      · refine lv_aload_n hx hb dX3_values_29 rfl (lv_at hl 0 rfl) ?_
        refine lv_iload_n hx hb dX3_values_30 rfl (lv_at hl 1 rfl) ?_
        refine lv_iload_n hx hb dX3_values_31 rfl (lv_at hl 2 rfl) ?_
        refine g_callv (va_runV (As := [.int (nI q), .int key]) (rest := []) ⟨hx, hb, hml, hown, hts⟩ (k_lay l G base hT1.1 (q := q) (key := key) hq) (cwV 2 hts gX3_values_X3_lay rfl rfl rfl (by decide +kernel) ⟨(Nat.le_of_ble_eq_true rfl), (Nat.le_of_ble_eq_true rfl)⟩) (g_pv3 hK hG mL0 mK0) rfl rfl hl.1 rfl (lv_room (Nat.le_of_ble_eq_true rfl)) dX3_values_32 ⟨(Nat.le_of_ble_eq_true rfl), (Nat.le_of_ble_eq_true rfl)⟩) hG (fun u H locs hp hG => ?_)
        obtain ⟨m5, r5, f5⟩ := u
        obtain ⟨p1, p2, p3, p4, p5⟩ := hp
        replace hG : gw G base s.heap (L, K, n, rI, r5, rQ, f5, fR) H locs := hG
        replace p2 : m5 ≤ 600 := p2
        replace p1 : f5 (bm 0) 12 = nI m5 := p1
        replace p3 : f5 (bm 0) 0 = f1 (bm 0) 0 := p3
        replace p5 : StpM (L, K, n, rI, rJ, rQ, fI, fR) bm (L, K, n, rI, r5, rQ, f5, fR) β := hT1.tr p5
        refine lv_aload_n hx hb dX3_values_35 rfl (lv_at hl 0 rfl) ?_
        refine r_Model_many hx hb hts (by decide +kernel) hown hK hG mL0 mK0 (hts (.fieldLink RX3 142 "DotStoresModel" "many" "I") (by decide +kernel)) dX3_values_36 ?_
        refine lv_topi (fun z1 ez1 => ?_)
        obtain rfl : z1 = nI m5 := ez1.trans (p1)
        refine W.widen (k := 0) (n := 0) (by omega) (by omega) ?_
        exact W.iret (v := (nI m5)) hx hb hr (fun t9 h9 hW9 => ⟨⟨(nI m5), ((m5, r5, f5), q), rfl, ⟨Or.inl ⟨p3.trans hf1, ⟨hq, rfl⟩, hkey, rfl, p2, p4⟩, p5⟩, hG.at h9⟩, hG.2.2.1.F h9⟩) hG.2.2.1.2.2 dX3_values_39
      · exact absurd c8 (by decide)
set_option maxHeartbeats 4000000 in
set_option maxRecDepth 100000 in
/-- value -/
theorem k_value (l : Launch) (G : gG) (base : Nat) {L : List Nat} {K n : Nat → Nat} {rI : Nat → Nat → Int32} {rJ : Nat → Nat → Int64} {rQ : Nat → Nat → Option Nat} {fI : Nat → Nat → Int32} {fR : Nat → Nat → Option Nat} {bm : Nat → Nat} {β : bT} (hM : RepM (L, K, n, rI, rJ, rQ, fI, fR) bm β) {v key ix : Int32} : Met l yX3_value wsX3_value ({ frames := 2, cells := 0, slots := 0, locals := 49 }) (va_Pc [.ref (bm 0), .int v, .int key, .int ix] (g_Pr G base (L, K, n, rI, rJ, rQ, fI, fR))) (g_Ql G base (fun u : ((Nat × (Nat → Nat → Int64) × (Nat → Nat → Int32)) × Nat) × Nat => (L, K, n, rI, u.1.1.2.1, rQ, u.1.1.2.2, fR)) (fun x u => ((u.1.1.2.2 (bm 0) 0 = 0 ∧ (u.1.2 < 6 ∧ v = nI u.1.2) ∧ okI key 16 ∧ (u.2 < u.1.1.1 ∧ ix = nI u.2) ∧ u.1.1.1 ≤ 600 ∧ x = u.1.1.2.1 (bm 13) u.2 ∧ OrdB β u.1.2 key (u.1.1.2.1 (bm 13)) u.1.1.1) ∨ (u.1.1.2.2 (bm 0) 0 = 1 ∧ (¬ (okI v 6 ∧ okI key 16) ∨ ((u.1.2 < 6 ∧ v = nI u.1.2) ∧ okI key 16 ∧ ¬ okI ix u.1.1.1 ∧ u.1.1.1 ≤ 600 ∧ OrdB β u.1.2 key (u.1.1.2.1 (bm 13)) u.1.1.1)))) ∧ StpM (L, K, n, rI, rJ, rQ, fI, fR) bm (L, K, n, rI, u.1.1.2.1, rQ, u.1.1.2.2, fR) β)) 0 0 (g_A base) := by
  have hMd : isMd L K n fR bm := hM.1
  have hMd0 := hMd
  obtain ⟨minj, mL0, mK0, ⟨mf2, mf3, mf4, mf5, mf6, mf7, mf8, mf9, mf10, mf11, mf13⟩, ⟨mL2, mK2, mn2⟩, ⟨mL3, mK3, mn3⟩, ⟨mL4, mK4, mn4⟩, ⟨mL5, mK5, mn5⟩, ⟨mL6, mK6, mn6⟩, ⟨mL7, mK7, mn7⟩, ⟨mL8, mK8, mn8⟩, ⟨mL9, mK9, mn9⟩, ⟨mL10, mK10, mn10⟩, ⟨mL11, mK11, mn11⟩, ⟨mL13, mK13, mn13⟩⟩ := hMd0
  have hdl : fI (bm 0) 1 = nI (b_nd β) := hM.2.1.1
  have hnd : b_nd β ≤ 250 := hM.2.1.2
  refine Met.ofW (cc := cX3_value) (maxL := 4) (ret := (some .long)) (by decide) rfl ?_
  intro p e s m args below meth c s₁ B hml hv
  obtain ⟨rfl, hPr⟩ := hv
  have hx := B.exec
  have hb := B.bytes
  have hr := B.returns
  have hts := atoms_spec (ws := wsX3_value) B.pre
  have hown : s.vm.findClass RX3 = some m.cls := findClass_of_methodNamed B.named
  have hlocks := B.notSynchronized
  have hin : meth.name = "value" := (name_of_methodNamed B.named B.method).1
  have hK := hPr.2.2
  have hG := hPr.gw
  have hl := lv_entry ([.ref (bm 0), .int v, .int key, .int ix]) (n := 4) (Nat.le_of_ble_eq_true rfl)
  rw [lg_entry_eq]
  generalize (lg_sl ([.ref (bm 0), .int v, .int key, .int ix]) ++ List.replicate (4 - (lg_sl ([.ref (bm 0), .int v, .int key, .int ix])).length) Slot.unset).toArray = ls at hl ⊢
  have hl : lv_has ls 4 [(0, .ref (bm 0)), (1, .int v), (2, .int key), (3, .int ix)] := hl
  refine g_start hPr (fun H locs hG => ?_)
  refine lv_aload_n hx hb dX3_value_0 rfl (lv_at hl 0 rfl) ?_
  refine lv_aload_n hx hb dX3_value_1 rfl (lv_at hl 0 rfl) ?_
  refine lv_iload_n hx hb dX3_value_2 rfl (lv_at hl 1 rfl) ?_
  refine g_calli (va_runV (As := [.int v]) (rest := [.ref (bm 0)]) ⟨hx, hb, hml, hown, hts⟩ (k_isReplica l G base (v := v) (a := bm 0)) (cwV 1 hts gX3_value_X3_isReplica rfl rfl rfl (by decide +kernel) ⟨(Nat.le_of_ble_eq_true rfl), (Nat.le_of_ble_eq_true rfl)⟩) (g_pv3 hK hG mL0 mK0) rfl rfl hl.1 rfl (lv_room (Nat.le_of_ble_eq_true rfl)) dX3_value_3 ⟨(Nat.le_of_ble_eq_true rfl), (Nat.le_of_ble_eq_true rfl)⟩) hG (fun y1 b1 H locs hp hG => ?_)
  obtain ⟨e9, h1⟩ := hp
  subst e9
  refine lv_if_eq (tgt := 20) hx hb dX3_value_6 (by decide) (fun c1 => ?_) (fun c1 => ?_)
  · have hno : ¬ (okI v 6 ∧ okI key 16) := fun z => absurd ((bi_0.mp c1).symm.trans (h1.mpr z.1)) (by decide)
    refine lv_iconst (v := 0) hx hb dX3_value_20 (by decide) ?_
    refine g_calli (va_runV (As := [.int 0]) (rest := []) ⟨hx, hb, hml, hown, hts⟩ (k_goes l G base hM (g := false)) (cwV 1 hts gX3_value_X3_goes rfl rfl rfl (by decide +kernel) ⟨(Nat.le_of_ble_eq_true rfl), (Nat.le_of_ble_eq_true rfl)⟩) (g_pv3 hK hG mL0 mK0) rfl rfl hl.1 rfl (lv_room (Nat.le_of_ble_eq_true rfl)) dX3_value_21 ⟨(Nat.le_of_ble_eq_true rfl), (Nat.le_of_ble_eq_true rfl)⟩) hG (fun y5 _ H locs hp hG => ?_)
    obtain ⟨f1, ef1⟩ : ∃ z, z = g_up fI (bm 0) 0 (bi (!false)) := ⟨_, rfl⟩
    replace hG : gw G base s.heap (L, K, n, rI, rJ, rQ, f1, fR) H locs := by rw [ef1]; exact hG
    have hT1 : StpM (L, K, n, rI, rJ, rQ, fI, fR) bm (L, K, n, rI, rJ, rQ, f1, fR) β := repM_F0 hM (by rw [ef1, g_up_i _ _ _ _ (by decide)]) (fun b hb => by rw [ef1, g_up_other _ _ _ hb])
    have hf1 : f1 (bm 0) 0 = 1 := by rw [ef1, g_up_at]; rfl
    subst hp
    refine lv_if_ne (tgt := 29) hx hb dX3_value_24 (by decide) (fun c8 => ?_) (fun c8 => ?_)
    · exact absurd rfl c8
    · refine lv_lconst (v := 0) hx hb dX3_value_27 (by decide) ?_
      refine W.widen (k := 0) (n := 0) (by omega) (by omega) ?_
      exact W.lret (v := 0) hx hb hr (fun t9 h9 hW9 => ⟨⟨0, (((0, rJ, f1), 0), 0), rfl, ⟨Or.inr ⟨hf1, Or.inl hno⟩, hT1⟩, hG.at h9⟩, hG.2.2.1.F h9⟩) hG.2.2.1.2.2 dX3_value_28
  · obtain ⟨q, hq, rfl⟩ := h1.mp (ts_nf (fun z => c1 (bi_0.mpr z)))
    refine lv_iload_n hx hb dX3_value_9 rfl (lv_at hl 2 rfl) ?_
    refine g_calli (va_runS (As := [.int key]) (rest := [.ref (bm 0)]) ⟨hx, hb, hml, hown, hts⟩ (k_isKey l G base (v := key)) (cwS 1 hts gX3_value_X3_isKey rfl rfl rfl (by decide +kernel) ⟨(Nat.le_of_ble_eq_true rfl), (Nat.le_of_ble_eq_true rfl)⟩) (g_ps hK hG) rfl rfl hl.1 rfl (lv_room (Nat.le_of_ble_eq_true rfl)) dX3_value_10 ⟨(Nat.le_of_ble_eq_true rfl), (Nat.le_of_ble_eq_true rfl)⟩) hG (fun y2 b2 H locs hp hG => ?_)
    obtain ⟨e9, h2⟩ := hp
    subst e9
    refine lv_if_eq (tgt := 20) hx hb dX3_value_13 (by decide) (fun c2 => ?_) (fun c2 => ?_)
    · have hno : ¬ (okI (nI q) 6 ∧ okI key 16) := fun z => absurd ((bi_0.mp c2).symm.trans (h2.mpr z.2)) (by decide)
      refine lv_iconst (v := 0) hx hb dX3_value_20 (by decide) ?_
      refine g_calli (va_runV (As := [.int 0]) (rest := []) ⟨hx, hb, hml, hown, hts⟩ (k_goes l G base hM (g := false)) (cwV 1 hts gX3_value_X3_goes rfl rfl rfl (by decide +kernel) ⟨(Nat.le_of_ble_eq_true rfl), (Nat.le_of_ble_eq_true rfl)⟩) (g_pv3 hK hG mL0 mK0) rfl rfl hl.1 rfl (lv_room (Nat.le_of_ble_eq_true rfl)) dX3_value_21 ⟨(Nat.le_of_ble_eq_true rfl), (Nat.le_of_ble_eq_true rfl)⟩) hG (fun y5 _ H locs hp hG => ?_)
      obtain ⟨f1, ef1⟩ : ∃ z, z = g_up fI (bm 0) 0 (bi (!false)) := ⟨_, rfl⟩
      replace hG : gw G base s.heap (L, K, n, rI, rJ, rQ, f1, fR) H locs := by rw [ef1]; exact hG
      have hT1 : StpM (L, K, n, rI, rJ, rQ, fI, fR) bm (L, K, n, rI, rJ, rQ, f1, fR) β := repM_F0 hM (by rw [ef1, g_up_i _ _ _ _ (by decide)]) (fun b hb => by rw [ef1, g_up_other _ _ _ hb])
      have hf1 : f1 (bm 0) 0 = 1 := by rw [ef1, g_up_at]; rfl
      subst hp
      refine lv_if_ne (tgt := 29) hx hb dX3_value_24 (by decide) (fun c8 => ?_) (fun c8 => ?_)
      · exact absurd rfl c8
      · refine lv_lconst (v := 0) hx hb dX3_value_27 (by decide) ?_
        refine W.widen (k := 0) (n := 0) (by omega) (by omega) ?_
        exact W.lret (v := 0) hx hb hr (fun t9 h9 hW9 => ⟨⟨0, (((0, rJ, f1), 0), 0), rfl, ⟨Or.inr ⟨hf1, Or.inl hno⟩, hT1⟩, hG.at h9⟩, hG.2.2.1.F h9⟩) hG.2.2.1.2.2 dX3_value_28
    · have hkey := h2.mp (ts_nf (fun z => c2 (bi_0.mpr z)))
      refine lv_iconst (v := 1) hx hb dX3_value_16 (by decide) ?_
      refine lv_goto (tgt := 21) hx hb dX3_value_17 (by decide) ?_
      refine g_calli (va_runV (As := [.int 1]) (rest := []) ⟨hx, hb, hml, hown, hts⟩ (k_goes l G base hM (g := true)) (cwV 1 hts gX3_value_X3_goes rfl rfl rfl (by decide +kernel) ⟨(Nat.le_of_ble_eq_true rfl), (Nat.le_of_ble_eq_true rfl)⟩) (g_pv3 hK hG mL0 mK0) rfl rfl hl.1 rfl (lv_room (Nat.le_of_ble_eq_true rfl)) dX3_value_21 ⟨(Nat.le_of_ble_eq_true rfl), (Nat.le_of_ble_eq_true rfl)⟩) hG (fun y5 _ H locs hp hG => ?_)
      obtain ⟨f1, ef1⟩ : ∃ z, z = g_up fI (bm 0) 0 (bi (!true)) := ⟨_, rfl⟩
      replace hG : gw G base s.heap (L, K, n, rI, rJ, rQ, f1, fR) H locs := by rw [ef1]; exact hG
      have hT1 : StpM (L, K, n, rI, rJ, rQ, fI, fR) bm (L, K, n, rI, rJ, rQ, f1, fR) β := repM_F0 hM (by rw [ef1, g_up_i _ _ _ _ (by decide)]) (fun b hb => by rw [ef1, g_up_other _ _ _ hb])
      have hf1 : f1 (bm 0) 0 = 0 := by rw [ef1, g_up_at]; rfl
      subst hp
      refine lv_if_ne (tgt := 29) hx hb dX3_value_24 (by decide) (fun c8 => ?_) (fun c8 => ?_)
      · refine lv_aload_n hx hb dX3_value_29 rfl (lv_at hl 0 rfl) ?_
        refine lv_iload_n hx hb dX3_value_30 rfl (lv_at hl 1 rfl) ?_
        refine lv_iload_n hx hb dX3_value_31 rfl (lv_at hl 2 rfl) ?_
        refine g_callv (va_runV (As := [.int (nI q), .int key]) (rest := []) ⟨hx, hb, hml, hown, hts⟩ (k_lay l G base hT1.1 (q := q) (key := key) hq) (cwV 2 hts gX3_value_X3_lay rfl rfl rfl (by decide +kernel) ⟨(Nat.le_of_ble_eq_true rfl), (Nat.le_of_ble_eq_true rfl)⟩) (g_pv3 hK hG mL0 mK0) rfl rfl hl.1 rfl (lv_room (Nat.le_of_ble_eq_true rfl)) dX3_value_32 ⟨(Nat.le_of_ble_eq_true rfl), (Nat.le_of_ble_eq_true rfl)⟩) hG (fun u H locs hp hG => ?_)
        obtain ⟨m5, r5, f5⟩ := u
        obtain ⟨p1, p2, p3, p4, p5⟩ := hp
        replace hG : gw G base s.heap (L, K, n, rI, r5, rQ, f5, fR) H locs := hG
        replace p2 : m5 ≤ 600 := p2
        replace p1 : f5 (bm 0) 12 = nI m5 := p1
        replace p3 : f5 (bm 0) 0 = f1 (bm 0) 0 := p3
        replace p5 : StpM (L, K, n, rI, rJ, rQ, fI, fR) bm (L, K, n, rI, r5, rQ, f5, fR) β := hT1.tr p5
        refine lv_aload_n hx hb dX3_value_35 rfl (lv_at hl 0 rfl) ?_
        refine lv_iload_n hx hb dX3_value_36 rfl (lv_at hl 3 rfl) ?_
        refine lv_iconst (v := 0) hx hb dX3_value_37 (by decide) ?_
        refine lv_aload_n hx hb dX3_value_38 rfl (lv_at hl 0 rfl) ?_
        refine r_Model_many hx hb hts (by decide +kernel) hown hK hG mL0 mK0 (hts (.fieldLink RX3 142 "DotStoresModel" "many" "I") (by decide +kernel)) dX3_value_39 ?_
        refine lv_topi (fun z1 ez1 => ?_)
        obtain rfl : z1 = nI m5 := ez1.trans (p1)
        refine lv_iconst (v := 1) hx hb dX3_value_42 (by decide) ?_
        refine lv_isub hx hb dX3_value_43 ?_
        refine g_calli (va_runS (As := [.int ix, .int 0, .int ((nI m5) - 1)]) (rest := [.ref (bm 0)]) ⟨hx, hb, hml, hown, hts⟩ (k_in l G base (v := ix) (lo := 0) (hi := nI m5 - 1)) (cwS 3 hts gX3_value_X3_in rfl rfl rfl (by decide +kernel) ⟨(Nat.le_of_ble_eq_true rfl), (Nat.le_of_ble_eq_true rfl)⟩) (g_ps hK hG) rfl rfl hl.1 rfl (lv_room (Nat.le_of_ble_eq_true rfl)) dX3_value_44 ⟨(Nat.le_of_ble_eq_true rfl), (Nat.le_of_ble_eq_true rfl)⟩) hG (fun y4 b4 H locs hp hG => ?_)
        obtain ⟨e9, h4⟩ := hp
        replace h4 := h4.trans (okI_le (v := ix) (N := m5) (by omega))
        subst e9
        cases b4 with
        | true =>
          obtain ⟨xx, hxx, rfl⟩ := h4.mp rfl
          refine g_calli (va_runV (As := [.int (bi true)]) (rest := []) ⟨hx, hb, hml, hown, hts⟩ (k_goes l G base p5.1 (g := true)) (cwV 1 hts gX3_value_X3_goes rfl rfl rfl (by decide +kernel) ⟨(Nat.le_of_ble_eq_true rfl), (Nat.le_of_ble_eq_true rfl)⟩) (g_pv3 hK hG mL0 mK0) rfl rfl hl.1 rfl (lv_room (Nat.le_of_ble_eq_true rfl)) dX3_value_47 ⟨(Nat.le_of_ble_eq_true rfl), (Nat.le_of_ble_eq_true rfl)⟩) hG (fun y5 _ H locs hp hG => ?_)
          obtain ⟨f6, ef6⟩ : ∃ z, z = g_up f5 (bm 0) 0 (bi (!true)) := ⟨_, rfl⟩
          replace hG : gw G base s.heap (L, K, n, rI, r5, rQ, f6, fR) H locs := by rw [ef6]; exact hG
          have hT6 : StpM (L, K, n, rI, rJ, rQ, fI, fR) bm (L, K, n, rI, r5, rQ, f6, fR) β := p5.tr (repM_F0 p5.1 (by rw [ef6, g_up_i _ _ _ _ (by decide)]) (fun b hb => by rw [ef6, g_up_other _ _ _ hb]))
          have hf6 : f6 (bm 0) 0 = 0 := by rw [ef6, g_up_at]; rfl
          subst hp
          refine lv_if_eq (tgt := 62) hx hb dX3_value_50 (by decide) (fun c8 => ?_) (fun c8 => ?_)
          · exact absurd c8 (by decide)
          · refine lv_aload_n hx hb dX3_value_53 rfl (lv_at hl 0 rfl) ?_
            refine r_Model_sorted hx hb hts (by decide +kernel) hown hK hG mL0 mK0 mf13 (hts (.fieldLink RX3 42 "DotStoresModel" "sorted" "[J") (by decide +kernel)) dX3_value_54 ?_
            refine lv_iload_n hx hb dX3_value_57 rfl (lv_at hl 3 rfl) ?_
            refine g_lald hx hb hK hG mL13 mK13 (xx) rfl (by rw [mn13]; omega) (by rw [mn13]; decide) dX3_value_58 ?_
            refine lv_goto (tgt := 63) hx hb dX3_value_59 (by decide) ?_
            refine W.widen (k := 0) (n := 0) (by omega) (by omega) ?_
            exact W.lret (v := (r5 (bm 13) (xx))) hx hb hr (fun t9 h9 hW9 => ⟨⟨(r5 (bm 13) (xx)), (((m5, r5, f6), q), xx), rfl, ⟨Or.inl ⟨hf6, ⟨hq, rfl⟩, hkey, ⟨hxx, rfl⟩, p2, rfl, p4⟩, hT6⟩, hG.at h9⟩, hG.2.2.1.F h9⟩) hG.2.2.1.2.2 dX3_value_63
        | false =>
          have hno4 : ¬ okI ix m5 := fun z => Bool.noConfusion (h4.mpr z)
          refine g_calli (va_runV (As := [.int (bi false)]) (rest := []) ⟨hx, hb, hml, hown, hts⟩ (k_goes l G base p5.1 (g := false)) (cwV 1 hts gX3_value_X3_goes rfl rfl rfl (by decide +kernel) ⟨(Nat.le_of_ble_eq_true rfl), (Nat.le_of_ble_eq_true rfl)⟩) (g_pv3 hK hG mL0 mK0) rfl rfl hl.1 rfl (lv_room (Nat.le_of_ble_eq_true rfl)) dX3_value_47 ⟨(Nat.le_of_ble_eq_true rfl), (Nat.le_of_ble_eq_true rfl)⟩) hG (fun y5 _ H locs hp hG => ?_)
          obtain ⟨f6, ef6⟩ : ∃ z, z = g_up f5 (bm 0) 0 (bi (!false)) := ⟨_, rfl⟩
          replace hG : gw G base s.heap (L, K, n, rI, r5, rQ, f6, fR) H locs := by rw [ef6]; exact hG
          have hT6 : StpM (L, K, n, rI, rJ, rQ, fI, fR) bm (L, K, n, rI, r5, rQ, f6, fR) β := p5.tr (repM_F0 p5.1 (by rw [ef6, g_up_i _ _ _ _ (by decide)]) (fun b hb => by rw [ef6, g_up_other _ _ _ hb]))
          have hf6 : f6 (bm 0) 0 = 1 := by rw [ef6, g_up_at]; rfl
          subst hp
          refine lv_if_eq (tgt := 62) hx hb dX3_value_50 (by decide) (fun c8 => ?_) (fun c8 => ?_)
          · refine lv_lconst (v := 0) hx hb dX3_value_62 (by decide) ?_
            refine W.widen (k := 0) (n := 0) (by omega) (by omega) ?_
            exact W.lret (v := 0) hx hb hr (fun t9 h9 hW9 => ⟨⟨0, (((m5, r5, f6), q), 0), rfl, ⟨Or.inr ⟨hf6, Or.inr ⟨⟨hq, rfl⟩, hkey, hno4, p2, p4⟩⟩, hT6⟩, hG.at h9⟩, hG.2.2.1.F h9⟩) hG.2.2.1.2.2 dX3_value_63
          · exact absurd rfl c8
      · exact absurd c8 (by decide)
