theorem isSame_iff {L : List Nat} {K n : Nat → Nat} {rI : Nat → Nat → Int32} {rJ : Nat → Nat → Int64} {rQ : Nat → Nat → Option Nat} {fI : Nat → Nat → Int32} {fR : Nat → Nat → Option Nat} {bm : Nat → Nat} {β : bT} {a b : Nat} (hM : RepM (L, K, n, rI, rJ, rQ, fI, fR) bm β) (ha : a < 257) (hb : b < 257) :
    (((rI (bm 4) a = rI (bm 4) b ∧ rI (bm 5) a = rI (bm 5) b) ∧ ∀ v, v < 12 → (fun v => rJ (bm 2) (12 * a + v) = rJ (bm 2) (12 * b + v) ∧ rJ (bm 3) (12 * a + v) = rJ (bm 3) (12 * b + v)) v) ∧ ∀ v, v < 32 → (fun v => rI (bm 6) (32 * a + v) = rI (bm 6) (32 * b + v) ∧ rI (bm 7) (32 * a + v) = rI (bm 7) (32 * b + v) ∧ rI (bm 8) (32 * a + v) = rI (bm 8) (32 * b + v)) v) ↔ bEq β a b := by
  obtain ⟨m1, m2, m3, m4, m5, m6⟩ := hM
  replace m4 : ∀ k, k < 257 → rI (bm 4) k = b_P β k ∧ rI (bm 5) k = b_T β k := m4
  replace m5 : ∀ k, k < 257 → ∀ i, i < 32 → rI (bm 6) (32 * k + i) = b_tm β k i ∧ rI (bm 7) (32 * k + i) = b_by β k i ∧ rI (bm 8) (32 * k + i) = bi (b_in β k i) := m5
  replace m3 : ∀ k, k < 257 → ∀ i, i < 768 → rb (mr (rJ (bm 2)) k) i = b_S β k i ∧ rb (mr (rJ (bm 3)) k) i = b_L β k i := m3
  unfold bEq
  rw [(m4 a ha).1, (m4 b hb).1, (m4 a ha).2, (m4 b hb).2]
  constructor
  · rintro ⟨⟨q1, q2⟩, q3⟩
    refine ⟨fun i hi => ⟨?_, ?_⟩, q1, fun i hi => ?_⟩
    · rw [← (m3 a ha i hi).1, ← (m3 b hb i hi).1]; exact rb_eq12.mp (fun j hj => (q2 j hj).1) i hi
    · rw [← (m3 a ha i hi).2, ← (m3 b hb i hi).2]; exact rb_eq12.mp (fun j hj => (q2 j hj).2) i hi
    · obtain ⟨z1, z2, z3⟩ := q3 i hi
      obtain ⟨a1, a2, a3⟩ := m5 a ha i hi
      obtain ⟨b1, b2, b3⟩ := m5 b hb i hi
      exact ⟨a1.symm.trans (z1.trans b1), a2.symm.trans (z2.trans b2), bi_inj.mp (a3.symm.trans (z3.trans b3))⟩
  · rintro ⟨q1, q2, q3⟩
    refine ⟨⟨q2, fun v hv => ⟨?_, ?_⟩⟩, fun i hi => ?_⟩
    · exact (rb_eq12 (f := mr (rJ (bm 2)) a) (g := mr (rJ (bm 2)) b)).mpr (fun i hi => by rw [(m3 a ha i hi).1, (m3 b hb i hi).1]; exact (q1 i hi).1) v hv
    · exact (rb_eq12 (f := mr (rJ (bm 3)) a) (g := mr (rJ (bm 3)) b)).mpr (fun i hi => by rw [(m3 a ha i hi).2, (m3 b hb i hi).2]; exact (q1 i hi).2) v hv
    · obtain ⟨z1, z2, z3⟩ := q3 i hi
      obtain ⟨a1, a2, a3⟩ := m5 a ha i hi
      obtain ⟨b1, b2, b3⟩ := m5 b hb i hi
      exact ⟨a1.trans (z1.trans b1.symm), a2.trans (z2.trans b2.symm), a3.trans ((bi_inj.mpr z3).trans b3.symm)⟩
set_option maxHeartbeats 4000000 in
set_option maxRecDepth 100000 in
/-- isSame -/
theorem k_isSame (l : Launch) (G : gG) (base : Nat) {L : List Nat} {K n : Nat → Nat} {rI : Nat → Nat → Int32} {rJ : Nat → Nat → Int64} {rQ : Nat → Nat → Option Nat} {fI : Nat → Nat → Int32} {fR : Nat → Nat → Option Nat} {bm : Nat → Nat} {β : bT} (hM : RepM (L, K, n, rI, rJ, rQ, fI, fR) bm β) {a b : Nat} (ha : a < 257) (hb0 : b < 257) : Met l yX3_isSame wsX3_isSame ({ frames := 0, cells := 0, slots := 0, locals := 0 }) (va_Pc [.ref (bm 0), .int (nI a), .int (nI b)] (g_Pr G base (L, K, n, rI, rJ, rQ, fI, fR))) (g_Qi G base (fun _ : Bool => (L, K, n, rI, rJ, rQ, fI, fR)) (fun x u => x = bi u ∧ (u = true ↔ bEq β a b))) 0 0 (g_A base) := by
  have hMd : isMd L K n fR bm := hM.1
  have hMd0 := hMd
  obtain ⟨minj, mL0, mK0, ⟨mf2, mf3, mf4, mf5, mf6, mf7, mf8, mf9, mf10, mf11, mf13⟩, ⟨mL2, mK2, mn2⟩, ⟨mL3, mK3, mn3⟩, ⟨mL4, mK4, mn4⟩, ⟨mL5, mK5, mn5⟩, ⟨mL6, mK6, mn6⟩, ⟨mL7, mK7, mn7⟩, ⟨mL8, mK8, mn8⟩, ⟨mL9, mK9, mn9⟩, ⟨mL10, mK10, mn10⟩, ⟨mL11, mK11, mn11⟩, ⟨mL13, mK13, mn13⟩⟩ := hMd0
  have hdl : fI (bm 0) 1 = nI (b_nd β) := hM.2.1.1
  have hnd : b_nd β ≤ 250 := hM.2.1.2
  refine Met.ofW (cc := cX3_isSame) (maxL := 7) (ret := (some .boolean)) (by decide) rfl ?_
  intro p e s m args below meth c s₁ B hml hv
  obtain ⟨rfl, hPr⟩ := hv
  have hx := B.exec
  have hb := B.bytes
  have hr := B.returns
  have hts := atoms_spec (ws := wsX3_isSame) B.pre
  have hown : s.vm.findClass RX3 = some m.cls := findClass_of_methodNamed B.named
  have hlocks := B.notSynchronized
  have hin : meth.name = "isSame" := (name_of_methodNamed B.named B.method).1
  have hK := hPr.2.2
  have hG := hPr.gw
  have hl := lv_entry ([.ref (bm 0), .int (nI a), .int (nI b)]) (n := 7) (Nat.le_of_ble_eq_true rfl)
  rw [lg_entry_eq]
  generalize (lg_sl ([.ref (bm 0), .int (nI a), .int (nI b)]) ++ List.replicate (7 - (lg_sl ([.ref (bm 0), .int (nI a), .int (nI b)])).length) Slot.unset).toArray = ls at hl ⊢
  have hl : lv_has ls 7 [(0, .ref (bm 0)), (1, .int (nI a)), (2, .int (nI b))] := hl
  refine g_start hPr (fun H locs hG => ?_)
  refine lv_aload_n hx hb dX3_isSame_0 rfl (lv_at hl 0 rfl) ?_
  refine r_Model_put hx hb hts (by decide +kernel) hown hK hG mL0 mK0 mf4 (hts (.fieldLink RX3 16 "DotStoresModel" "put" "[I") (by decide +kernel)) dX3_isSame_1 ?_
  refine lv_iload_n hx hb dX3_isSame_4 rfl (lv_at hl 1 rfl) ?_
  refine g_iald hx hb hK hG mL4 mK4 (a) rfl (by rw [mn4]; omega) (by rw [mn4]; decide) dX3_isSame_5 ?_
  refine lv_aload_n hx hb dX3_isSame_6 rfl (lv_at hl 0 rfl) ?_
  refine r_Model_put hx hb hts (by decide +kernel) hown hK hG mL0 mK0 mf4 (hts (.fieldLink RX3 16 "DotStoresModel" "put" "[I") (by decide +kernel)) dX3_isSame_7 ?_
  refine lv_iload_n hx hb dX3_isSame_10 rfl (lv_at hl 2 rfl) ?_
  refine g_iald hx hb hK hG mL4 mK4 (b) rfl (by rw [mn4]; omega) (by rw [mn4]; decide) dX3_isSame_11 ?_
  refine lv_icmp_ne (tgt := 34) hx hb dX3_isSame_12 (by decide) (fun c3 => ?_) (fun c3 => ?_)
  · have hsm : false = true ↔ (rI (bm 4) a = rI (bm 4) b ∧ rI (bm 5) a = rI (bm 5) b) := ⟨fun z => Bool.noConfusion z, fun z => absurd z.1 c3⟩
    refine lv_iconst (v := 0) hx hb dX3_isSame_34 (by decide) ?_
    refine lv_istore_n (lv' := [(3, .int 0), (0, .ref (bm 0)), (1, .int (nI a)), (2, .int (nI b))]) hx hb dX3_isSame_35 rfl hl (by decide) rfl (fun ls hl => ?_)
    refine lv_iconst (v := 0) hx hb dX3_isSame_36 (by decide) ?_
    refine lv_istore (lv' := [(4, .int 0), (3, .int 0), (0, .ref (bm 0)), (1, .int (nI a)), (2, .int (nI b))]) hx hb dX3_isSame_37 hl (by decide) rfl (fun ls hl => ?_)
    obtain ⟨w, ew⟩ : ∃ z : Nat, z = 0 := ⟨_, rfl⟩
    obtain ⟨sm, esm⟩ : ∃ z : Bool, z = false := ⟨_, rfl⟩
    replace hl : lv_has ls 7 [(0, .ref (bm 0)), (1, .int (nI a)), (2, .int (nI b)), (3, .int (bi sm)), (4, .int (nI w))] := by subst ew esm; exact (lv_sub hl [2, 3, 4, 1, 0] rfl)
    have inv : w ≤ 12 ∧ (sm = true ↔ ((rI (bm 4) a = rI (bm 4) b ∧ rI (bm 5) a = rI (bm 5) b) ∧ ∀ v, v < w → (fun v => rJ (bm 2) (12 * a + v) = rJ (bm 2) (12 * b + v) ∧ rJ (bm 3) (12 * a + v) = rJ (bm 3) (12 * b + v)) v)) := by
      subst ew esm
      exact ⟨by omega, sm_0 hsm⟩
    have hf : 12 < w + 13 := by omega
    clear ew esm
    generalize 13 = d at hf
    induction d generalizing w sm H locs ls with
    | zero => exact absurd hf (by have := inv.1; omega)
    | succ d ih =>
      refine lv_iload hx hb dX3_isSame_39 (lv_at hl 4 rfl) ?_
      refine lv_bipush (v := 12) hx hb dX3_isSame_41 (by decide) ?_
      refine lv_icmp_ge (tgt := 118) hx hb dX3_isSame_43 (by decide) (fun c0 => ?_) (fun c0 => ?_)
      · have hw : w = 12 := by
          rcases Nat.lt_or_ge w 12 with q | q
          · exact absurd c0 (nI_ge q (by decide))
          · omega
        subst hw
        refine lv_iconst (v := 0) hx hb dX3_isSame_118 (by decide) ?_
        refine lv_istore (lv' := [(4, .int 0), (0, .ref (bm 0)), (1, .int (nI a)), (2, .int (nI b)), (3, .int (bi sm))]) hx hb dX3_isSame_119 hl (by decide) rfl (fun ls hl => ?_)
        clear ih hf
        have hsm2 := inv.2
        clear inv
        generalize sm = sm9 at hl hsm2
        obtain ⟨w, ew⟩ : ∃ z : Nat, z = 0 := ⟨_, rfl⟩
        obtain ⟨sm, esm⟩ : ∃ z : Bool, z = sm9 := ⟨_, rfl⟩
        replace hl : lv_has ls 7 [(0, .ref (bm 0)), (1, .int (nI a)), (2, .int (nI b)), (3, .int (bi sm)), (4, .int (nI w))] := by subst ew esm; exact (lv_sub hl [1, 2, 3, 4, 0] rfl)
        have inv : w ≤ 32 ∧ (sm = true ↔ (((rI (bm 4) a = rI (bm 4) b ∧ rI (bm 5) a = rI (bm 5) b) ∧ ∀ v, v < 12 → (fun v => rJ (bm 2) (12 * a + v) = rJ (bm 2) (12 * b + v) ∧ rJ (bm 3) (12 * a + v) = rJ (bm 3) (12 * b + v)) v) ∧ ∀ v, v < w → (fun v => rI (bm 6) (32 * a + v) = rI (bm 6) (32 * b + v) ∧ rI (bm 7) (32 * a + v) = rI (bm 7) (32 * b + v) ∧ rI (bm 8) (32 * a + v) = rI (bm 8) (32 * b + v)) v)) := by
          subst ew esm
          exact ⟨by omega, sm_0 hsm2⟩
        have hf : 32 < w + 33 := by omega
        clear ew esm
        generalize 33 = d at hf
        induction d generalizing w sm H locs ls with
        | zero => exact absurd hf (by have := inv.1; omega)
        | succ d ih =>
          refine lv_iload hx hb dX3_isSame_121 (lv_at hl 4 rfl) ?_
          refine lv_bipush (v := 32) hx hb dX3_isSame_123 (by decide) ?_
          refine lv_icmp_ge (tgt := 213) hx hb dX3_isSame_125 (by decide) (fun c9 => ?_) (fun c9 => ?_)
          · have hw : w = 32 := by
              rcases Nat.lt_or_ge w 32 with q | q
              · exact absurd c9 (nI_ge q (by decide))
              · omega
            subst hw
            refine lv_iload_n hx hb dX3_isSame_213 rfl (lv_at hl 3 rfl) ?_
            refine W.widen (k := 0) (n := 0) (by omega) (by omega) ?_
            exact W.zret (v := (bi sm)) hx hb hr (bi_nar sm) (fun t9 h9 hW9 => ⟨⟨(bi sm), sm, rfl, ⟨rfl, inv.2.trans (isSame_iff hM ha hb0)⟩, hG.at h9⟩, hG.2.2.1.F h9⟩) hG.2.2.1.2.2 dX3_isSame_214
          · have hw : w < 32 := by
              rcases Nat.lt_or_ge w 32 with q | q
              · exact q
              · exact absurd (nI_le (a := 32) q (by omega)) c9
            refine lv_bipush (v := 32) hx hb dX3_isSame_128 (by decide) ?_
            refine lv_iload_n hx hb dX3_isSame_130 rfl (lv_at hl 1 rfl) ?_
            refine lv_imul hx hb dX3_isSame_131 ?_
            refine lv_iload hx hb dX3_isSame_132 (lv_at hl 4 rfl) ?_
            refine lv_iadd hx hb dX3_isSame_134 ?_
            refine lv_topi (fun z1 ez1 => ?_)
            obtain rfl : z1 = nI (32 * a + w) := ez1.trans (m32 a w)
            refine lv_istore (lv' := [(5, .int (nI (32 * a + w))), (0, .ref (bm 0)), (1, .int (nI a)), (2, .int (nI b)), (3, .int (bi sm)), (4, .int (nI w))]) hx hb dX3_isSame_135 hl (by decide) rfl (fun ls hl => ?_)
            refine lv_bipush (v := 32) hx hb dX3_isSame_137 (by decide) ?_
            refine lv_iload_n hx hb dX3_isSame_139 rfl (lv_at hl 3 rfl) ?_
            refine lv_imul hx hb dX3_isSame_140 ?_
            refine lv_iload hx hb dX3_isSame_141 (lv_at hl 5 rfl) ?_
            refine lv_iadd hx hb dX3_isSame_143 ?_
            refine lv_topi (fun z2 ez2 => ?_)
            obtain rfl : z2 = nI (32 * b + w) := ez2.trans (m32 b w)
            refine lv_istore (lv' := [(6, .int (nI (32 * b + w))), (5, .int (nI (32 * a + w))), (0, .ref (bm 0)), (1, .int (nI a)), (2, .int (nI b)), (3, .int (bi sm)), (4, .int (nI w))]) hx hb dX3_isSame_144 hl (by decide) rfl (fun ls hl => ?_)
            refine lv_iload_n hx hb dX3_isSame_146 rfl (lv_at hl 5 rfl) ?_
            refine lv_if_eq (tgt := 205) hx hb dX3_isSame_147 (by decide) (fun c1 => ?_) (fun c1 => ?_)
            · have c1 := bi_0.mp c1
              have hsn : false = true ↔ (((rI (bm 4) a = rI (bm 4) b ∧ rI (bm 5) a = rI (bm 5) b) ∧ ∀ v, v < 12 → (fun v => rJ (bm 2) (12 * a + v) = rJ (bm 2) (12 * b + v) ∧ rJ (bm 3) (12 * a + v) = rJ (bm 3) (12 * b + v)) v) ∧ ∀ v, v < w + 1 → (fun v => rI (bm 6) (32 * a + v) = rI (bm 6) (32 * b + v) ∧ rI (bm 7) (32 * a + v) = rI (bm 7) (32 * b + v) ∧ rI (bm 8) (32 * a + v) = rI (bm 8) (32 * b + v)) v) := sm_f1 inv.2 c1
              refine lv_iconst (v := 0) hx hb dX3_isSame_205 (by decide) ?_
              refine lv_istore_n (lv' := [(3, .int 0), (6, .int (nI (32 * b + w))), (5, .int (nI (32 * a + w))), (0, .ref (bm 0)), (1, .int (nI a)), (2, .int (nI b)), (4, .int (nI w))]) hx hb dX3_isSame_206 rfl hl (by decide) rfl (fun ls hl => ?_)
              refine lv_iinc (v := (nI (w + 1))) (lv' := [(4, .int (nI (w + 1))), (3, .int 0), (6, .int (nI (32 * b + w))), (5, .int (nI (32 * a + w))), (0, .ref (bm 0)), (1, .int (nI a)), (2, .int (nI b))]) hx hb dX3_isSame_207 hl (k := 6) rfl (nI_1 w) (by decide) rfl (fun ls hl => ?_)
              refine lv_goto (tgt := 121) hx hb dX3_isSame_210 (by decide) ?_
              exact ih (w := w + 1) (sm := false) (hl := (lv_sub hl [4, 5, 6, 1, 0] rfl)) (hG := hG) (inv := ⟨by omega, hsn⟩) (hf := by omega)
            · have c1 := ts_nf (fun z => c1 (bi_0.mpr z))
              refine lv_aload_n hx hb dX3_isSame_150 rfl (lv_at hl 2 rfl) ?_
              refine r_Model_time hx hb hts (by decide +kernel) hown hK hG mL0 mK0 mf6 (hts (.fieldLink RX3 23 "DotStoresModel" "time" "[I") (by decide +kernel)) dX3_isSame_151 ?_
              refine lv_iload hx hb dX3_isSame_154 (lv_at hl 1 rfl) ?_
              refine g_iald hx hb hK hG mL6 mK6 (32 * a + w) rfl (by rw [mn6]; omega) (by rw [mn6]; decide) dX3_isSame_156 ?_
              refine lv_aload_n hx hb dX3_isSame_157 rfl (lv_at hl 2 rfl) ?_
              refine r_Model_time hx hb hts (by decide +kernel) hown hK hG mL0 mK0 mf6 (hts (.fieldLink RX3 23 "DotStoresModel" "time" "[I") (by decide +kernel)) dX3_isSame_158 ?_
              refine lv_iload hx hb dX3_isSame_161 (lv_at hl 0 rfl) ?_
              refine g_iald hx hb hK hG mL6 mK6 (32 * b + w) rfl (by rw [mn6]; omega) (by rw [mn6]; decide) dX3_isSame_163 ?_
              refine lv_icmp_ne (tgt := 205) hx hb dX3_isSame_164 (by decide) (fun c7 => ?_) (fun c7 => ?_)
              · have hsn : false = true ↔ (((rI (bm 4) a = rI (bm 4) b ∧ rI (bm 5) a = rI (bm 5) b) ∧ ∀ v, v < 12 → (fun v => rJ (bm 2) (12 * a + v) = rJ (bm 2) (12 * b + v) ∧ rJ (bm 3) (12 * a + v) = rJ (bm 3) (12 * b + v)) v) ∧ ∀ v, v < w + 1 → (fun v => rI (bm 6) (32 * a + v) = rI (bm 6) (32 * b + v) ∧ rI (bm 7) (32 * a + v) = rI (bm 7) (32 * b + v) ∧ rI (bm 8) (32 * a + v) = rI (bm 8) (32 * b + v)) v) := sm_f2 (fun z => c7 z.1)
                refine lv_iconst (v := 0) hx hb dX3_isSame_205 (by decide) ?_
                refine lv_istore_n (lv' := [(3, .int 0), (6, .int (nI (32 * b + w))), (5, .int (nI (32 * a + w))), (0, .ref (bm 0)), (1, .int (nI a)), (2, .int (nI b)), (4, .int (nI w))]) hx hb dX3_isSame_206 rfl hl (by decide) rfl (fun ls hl => ?_)
                refine lv_iinc (v := (nI (w + 1))) (lv' := [(4, .int (nI (w + 1))), (3, .int 0), (6, .int (nI (32 * b + w))), (5, .int (nI (32 * a + w))), (0, .ref (bm 0)), (1, .int (nI a)), (2, .int (nI b))]) hx hb dX3_isSame_207 hl (k := 6) rfl (nI_1 w) (by decide) rfl (fun ls hl => ?_)
                refine lv_goto (tgt := 121) hx hb dX3_isSame_210 (by decide) ?_
                exact ih (w := w + 1) (sm := false) (hl := (lv_sub hl [4, 5, 6, 1, 0] rfl)) (hG := hG) (inv := ⟨by omega, hsn⟩) (hf := by omega)
              · have c7 := (by first | exact c7 | exact Classical.not_not.mp c7)
                refine lv_aload_n hx hb dX3_isSame_167 rfl (lv_at hl 2 rfl) ?_
                refine r_Model_by hx hb hts (by decide +kernel) hown hK hG mL0 mK0 mf7 (hts (.fieldLink RX3 26 "DotStoresModel" "by" "[I") (by decide +kernel)) dX3_isSame_168 ?_
                refine lv_iload hx hb dX3_isSame_171 (lv_at hl 1 rfl) ?_
                refine g_iald hx hb hK hG mL7 mK7 (32 * a + w) rfl (by rw [mn7]; omega) (by rw [mn7]; decide) dX3_isSame_173 ?_
                refine lv_aload_n hx hb dX3_isSame_174 rfl (lv_at hl 2 rfl) ?_
                refine r_Model_by hx hb hts (by decide +kernel) hown hK hG mL0 mK0 mf7 (hts (.fieldLink RX3 26 "DotStoresModel" "by" "[I") (by decide +kernel)) dX3_isSame_175 ?_
                refine lv_iload hx hb dX3_isSame_178 (lv_at hl 0 rfl) ?_
                refine g_iald hx hb hK hG mL7 mK7 (32 * b + w) rfl (by rw [mn7]; omega) (by rw [mn7]; decide) dX3_isSame_180 ?_
                refine lv_icmp_ne (tgt := 205) hx hb dX3_isSame_181 (by decide) (fun c8 => ?_) (fun c8 => ?_)
                · have hsn : false = true ↔ (((rI (bm 4) a = rI (bm 4) b ∧ rI (bm 5) a = rI (bm 5) b) ∧ ∀ v, v < 12 → (fun v => rJ (bm 2) (12 * a + v) = rJ (bm 2) (12 * b + v) ∧ rJ (bm 3) (12 * a + v) = rJ (bm 3) (12 * b + v)) v) ∧ ∀ v, v < w + 1 → (fun v => rI (bm 6) (32 * a + v) = rI (bm 6) (32 * b + v) ∧ rI (bm 7) (32 * a + v) = rI (bm 7) (32 * b + v) ∧ rI (bm 8) (32 * a + v) = rI (bm 8) (32 * b + v)) v) := sm_f2 (fun z => c8 z.2.1)
                  refine lv_iconst (v := 0) hx hb dX3_isSame_205 (by decide) ?_
                  refine lv_istore_n (lv' := [(3, .int 0), (6, .int (nI (32 * b + w))), (5, .int (nI (32 * a + w))), (0, .ref (bm 0)), (1, .int (nI a)), (2, .int (nI b)), (4, .int (nI w))]) hx hb dX3_isSame_206 rfl hl (by decide) rfl (fun ls hl => ?_)
                  refine lv_iinc (v := (nI (w + 1))) (lv' := [(4, .int (nI (w + 1))), (3, .int 0), (6, .int (nI (32 * b + w))), (5, .int (nI (32 * a + w))), (0, .ref (bm 0)), (1, .int (nI a)), (2, .int (nI b))]) hx hb dX3_isSame_207 hl (k := 6) rfl (nI_1 w) (by decide) rfl (fun ls hl => ?_)
                  refine lv_goto (tgt := 121) hx hb dX3_isSame_210 (by decide) ?_
                  exact ih (w := w + 1) (sm := false) (hl := (lv_sub hl [4, 5, 6, 1, 0] rfl)) (hG := hG) (inv := ⟨by omega, hsn⟩) (hf := by omega)
                · have c8 := (by first | exact c8 | exact Classical.not_not.mp c8)
                  refine lv_aload_n hx hb dX3_isSame_184 rfl (lv_at hl 2 rfl) ?_
                  refine r_Model_isIn hx hb hts (by decide +kernel) hown hK hG mL0 mK0 mf8 (hts (.fieldLink RX3 29 "DotStoresModel" "isIn" "[Z") (by decide +kernel)) dX3_isSame_185 ?_
                  refine lv_iload hx hb dX3_isSame_188 (lv_at hl 1 rfl) ?_
                  refine g_zald hx hb hK hG mL8 mK8 (32 * a + w) rfl (by rw [mn8]; omega) (by rw [mn8]; decide) dX3_isSame_190 ?_
                  refine lv_aload_n hx hb dX3_isSame_191 rfl (lv_at hl 2 rfl) ?_
                  refine r_Model_isIn hx hb hts (by decide +kernel) hown hK hG mL0 mK0 mf8 (hts (.fieldLink RX3 29 "DotStoresModel" "isIn" "[Z") (by decide +kernel)) dX3_isSame_192 ?_
                  refine lv_iload hx hb dX3_isSame_195 (lv_at hl 0 rfl) ?_
                  refine g_zald hx hb hK hG mL8 mK8 (32 * b + w) rfl (by rw [mn8]; omega) (by rw [mn8]; decide) dX3_isSame_197 ?_
                  refine lv_icmp_ne (tgt := 205) hx hb dX3_isSame_198 (by decide) (fun ca => ?_) (fun ca => ?_)
                  · have hsn : false = true ↔ (((rI (bm 4) a = rI (bm 4) b ∧ rI (bm 5) a = rI (bm 5) b) ∧ ∀ v, v < 12 → (fun v => rJ (bm 2) (12 * a + v) = rJ (bm 2) (12 * b + v) ∧ rJ (bm 3) (12 * a + v) = rJ (bm 3) (12 * b + v)) v) ∧ ∀ v, v < w + 1 → (fun v => rI (bm 6) (32 * a + v) = rI (bm 6) (32 * b + v) ∧ rI (bm 7) (32 * a + v) = rI (bm 7) (32 * b + v) ∧ rI (bm 8) (32 * a + v) = rI (bm 8) (32 * b + v)) v) := sm_f2 (fun z => ca z.2.2)
                    refine lv_iconst (v := 0) hx hb dX3_isSame_205 (by decide) ?_
                    refine lv_istore_n (lv' := [(3, .int 0), (6, .int (nI (32 * b + w))), (5, .int (nI (32 * a + w))), (0, .ref (bm 0)), (1, .int (nI a)), (2, .int (nI b)), (4, .int (nI w))]) hx hb dX3_isSame_206 rfl hl (by decide) rfl (fun ls hl => ?_)
                    refine lv_iinc (v := (nI (w + 1))) (lv' := [(4, .int (nI (w + 1))), (3, .int 0), (6, .int (nI (32 * b + w))), (5, .int (nI (32 * a + w))), (0, .ref (bm 0)), (1, .int (nI a)), (2, .int (nI b))]) hx hb dX3_isSame_207 hl (k := 6) rfl (nI_1 w) (by decide) rfl (fun ls hl => ?_)
                    refine lv_goto (tgt := 121) hx hb dX3_isSame_210 (by decide) ?_
                    exact ih (w := w + 1) (sm := false) (hl := (lv_sub hl [4, 5, 6, 1, 0] rfl)) (hG := hG) (inv := ⟨by omega, hsn⟩) (hf := by omega)
                  · have ca := (by first | exact ca | exact Classical.not_not.mp ca)
                    have hsn : true = true ↔ (((rI (bm 4) a = rI (bm 4) b ∧ rI (bm 5) a = rI (bm 5) b) ∧ ∀ v, v < 12 → (fun v => rJ (bm 2) (12 * a + v) = rJ (bm 2) (12 * b + v) ∧ rJ (bm 3) (12 * a + v) = rJ (bm 3) (12 * b + v)) v) ∧ ∀ v, v < w + 1 → (fun v => rI (bm 6) (32 * a + v) = rI (bm 6) (32 * b + v) ∧ rI (bm 7) (32 * a + v) = rI (bm 7) (32 * b + v) ∧ rI (bm 8) (32 * a + v) = rI (bm 8) (32 * b + v)) v) := sm_t inv.2 c1 ⟨c7, c8, ca⟩
                    refine lv_iconst (v := 1) hx hb dX3_isSame_201 (by decide) ?_
                    refine lv_goto (tgt := 206) hx hb dX3_isSame_202 (by decide) ?_
                    refine lv_istore_n (lv' := [(3, .int 1), (6, .int (nI (32 * b + w))), (5, .int (nI (32 * a + w))), (0, .ref (bm 0)), (1, .int (nI a)), (2, .int (nI b)), (4, .int (nI w))]) hx hb dX3_isSame_206 rfl hl (by decide) rfl (fun ls hl => ?_)
                    refine lv_iinc (v := (nI (w + 1))) (lv' := [(4, .int (nI (w + 1))), (3, .int 1), (6, .int (nI (32 * b + w))), (5, .int (nI (32 * a + w))), (0, .ref (bm 0)), (1, .int (nI a)), (2, .int (nI b))]) hx hb dX3_isSame_207 hl (k := 6) rfl (nI_1 w) (by decide) rfl (fun ls hl => ?_)
                    refine lv_goto (tgt := 121) hx hb dX3_isSame_210 (by decide) ?_
                    exact ih (w := w + 1) (sm := true) (hl := (lv_sub hl [4, 5, 6, 1, 0] rfl)) (hG := hG) (inv := ⟨by omega, hsn⟩) (hf := by omega)
      · have hw : w < 12 := by
          rcases Nat.lt_or_ge w 12 with q | q
          · exact q
          · exact absurd (nI_le (a := 12) q (by omega)) c0
        refine lv_iload_n hx hb dX3_isSame_46 rfl (lv_at hl 3 rfl) ?_
        refine lv_if_eq (tgt := 110) hx hb dX3_isSame_47 (by decide) (fun c1 => ?_) (fun c1 => ?_)
        · have c1 := bi_0.mp c1
          have hsn : false = true ↔ ((rI (bm 4) a = rI (bm 4) b ∧ rI (bm 5) a = rI (bm 5) b) ∧ ∀ v, v < w + 1 → (fun v => rJ (bm 2) (12 * a + v) = rJ (bm 2) (12 * b + v) ∧ rJ (bm 3) (12 * a + v) = rJ (bm 3) (12 * b + v)) v) := sm_f1 inv.2 c1
          refine lv_iconst (v := 0) hx hb dX3_isSame_110 (by decide) ?_
          refine lv_istore_n (lv' := [(3, .int 0), (0, .ref (bm 0)), (1, .int (nI a)), (2, .int (nI b)), (4, .int (nI w))]) hx hb dX3_isSame_111 rfl hl (by decide) rfl (fun ls hl => ?_)
          refine lv_iinc (v := (nI (w + 1))) (lv' := [(4, .int (nI (w + 1))), (3, .int 0), (0, .ref (bm 0)), (1, .int (nI a)), (2, .int (nI b))]) hx hb dX3_isSame_112 hl (k := 4) rfl (nI_1 w) (by decide) rfl (fun ls hl => ?_)
          refine lv_goto (tgt := 39) hx hb dX3_isSame_115 (by decide) ?_
          exact ih (w := w + 1) (sm := false) (hl := (lv_sub hl [2, 3, 4, 1, 0] rfl)) (hG := hG) (inv := ⟨by omega, hsn⟩) (hf := by omega)
        · have c1 := ts_nf (fun z => c1 (bi_0.mpr z))
          refine lv_aload_n hx hb dX3_isSame_50 rfl (lv_at hl 0 rfl) ?_
          refine r_Model_seen hx hb hts (by decide +kernel) hown hK hG mL0 mK0 mf2 (hts (.fieldLink RX3 7 "DotStoresModel" "seen" "[J") (by decide +kernel)) dX3_isSame_51 ?_
          refine lv_bipush (v := 12) hx hb dX3_isSame_54 (by decide) ?_
          refine lv_iload_n hx hb dX3_isSame_56 rfl (lv_at hl 1 rfl) ?_
          refine lv_imul hx hb dX3_isSame_57 ?_
          refine lv_iload hx hb dX3_isSame_58 (lv_at hl 4 rfl) ?_
          refine lv_iadd hx hb dX3_isSame_60 ?_
          refine lv_topi (fun z3 ez3 => ?_)
          obtain rfl : z3 = nI (12 * a + w) := ez3.trans (m12 a w)
          refine g_lald hx hb hK hG mL2 mK2 (12 * a + w) rfl (by rw [mn2]; omega) (by rw [mn2]; decide) dX3_isSame_61 ?_
          refine lv_aload_n hx hb dX3_isSame_62 rfl (lv_at hl 0 rfl) ?_
          refine r_Model_seen hx hb hts (by decide +kernel) hown hK hG mL0 mK0 mf2 (hts (.fieldLink RX3 7 "DotStoresModel" "seen" "[J") (by decide +kernel)) dX3_isSame_63 ?_
          refine lv_bipush (v := 12) hx hb dX3_isSame_66 (by decide) ?_
          refine lv_iload_n hx hb dX3_isSame_68 rfl (lv_at hl 2 rfl) ?_
          refine lv_imul hx hb dX3_isSame_69 ?_
          refine lv_iload hx hb dX3_isSame_70 (lv_at hl 4 rfl) ?_
          refine lv_iadd hx hb dX3_isSame_72 ?_
          refine lv_topi (fun z4 ez4 => ?_)
          obtain rfl : z4 = nI (12 * b + w) := ez4.trans (m12 b w)
          refine g_lald hx hb hK hG mL2 mK2 (12 * b + w) rfl (by rw [mn2]; omega) (by rw [mn2]; decide) dX3_isSame_73 ?_
          refine W.lcmp hx hb dX3_isSame_74 ?_
          refine lv_if_ne (tgt := 110) hx hb dX3_isSame_75 (by decide) (fun c5 => ?_) (fun c5 => ?_)
          · have hsn : false = true ↔ ((rI (bm 4) a = rI (bm 4) b ∧ rI (bm 5) a = rI (bm 5) b) ∧ ∀ v, v < w + 1 → (fun v => rJ (bm 2) (12 * a + v) = rJ (bm 2) (12 * b + v) ∧ rJ (bm 3) (12 * a + v) = rJ (bm 3) (12 * b + v)) v) := sm_f2 (fun z => c5 ((lg_cmp_eq _ _).mpr z.1))
            refine lv_iconst (v := 0) hx hb dX3_isSame_110 (by decide) ?_
            refine lv_istore_n (lv' := [(3, .int 0), (0, .ref (bm 0)), (1, .int (nI a)), (2, .int (nI b)), (4, .int (nI w))]) hx hb dX3_isSame_111 rfl hl (by decide) rfl (fun ls hl => ?_)
            refine lv_iinc (v := (nI (w + 1))) (lv' := [(4, .int (nI (w + 1))), (3, .int 0), (0, .ref (bm 0)), (1, .int (nI a)), (2, .int (nI b))]) hx hb dX3_isSame_112 hl (k := 4) rfl (nI_1 w) (by decide) rfl (fun ls hl => ?_)
            refine lv_goto (tgt := 39) hx hb dX3_isSame_115 (by decide) ?_
            exact ih (w := w + 1) (sm := false) (hl := (lv_sub hl [2, 3, 4, 1, 0] rfl)) (hG := hG) (inv := ⟨by omega, hsn⟩) (hf := by omega)
          · have c5 := (lg_cmp_eq _ _).mp (by first | exact c5 | exact Classical.not_not.mp c5)
            refine lv_aload_n hx hb dX3_isSame_78 rfl (lv_at hl 0 rfl) ?_
            refine r_Model_live hx hb hts (by decide +kernel) hown hK hG mL0 mK0 mf3 (hts (.fieldLink RX3 13 "DotStoresModel" "live" "[J") (by decide +kernel)) dX3_isSame_79 ?_
            refine lv_bipush (v := 12) hx hb dX3_isSame_82 (by decide) ?_
            refine lv_iload_n hx hb dX3_isSame_84 rfl (lv_at hl 1 rfl) ?_
            refine lv_imul hx hb dX3_isSame_85 ?_
            refine lv_iload hx hb dX3_isSame_86 (lv_at hl 4 rfl) ?_
            refine lv_iadd hx hb dX3_isSame_88 ?_
            refine lv_topi (fun z5 ez5 => ?_)
            obtain rfl : z5 = nI (12 * a + w) := ez5.trans (m12 a w)
            refine g_lald hx hb hK hG mL3 mK3 (12 * a + w) rfl (by rw [mn3]; omega) (by rw [mn3]; decide) dX3_isSame_89 ?_
            refine lv_aload_n hx hb dX3_isSame_90 rfl (lv_at hl 0 rfl) ?_
            refine r_Model_live hx hb hts (by decide +kernel) hown hK hG mL0 mK0 mf3 (hts (.fieldLink RX3 13 "DotStoresModel" "live" "[J") (by decide +kernel)) dX3_isSame_91 ?_
            refine lv_bipush (v := 12) hx hb dX3_isSame_94 (by decide) ?_
            refine lv_iload_n hx hb dX3_isSame_96 rfl (lv_at hl 2 rfl) ?_
            refine lv_imul hx hb dX3_isSame_97 ?_
            refine lv_iload hx hb dX3_isSame_98 (lv_at hl 4 rfl) ?_
            refine lv_iadd hx hb dX3_isSame_100 ?_
            refine lv_topi (fun z6 ez6 => ?_)
            obtain rfl : z6 = nI (12 * b + w) := ez6.trans (m12 b w)
            refine g_lald hx hb hK hG mL3 mK3 (12 * b + w) rfl (by rw [mn3]; omega) (by rw [mn3]; decide) dX3_isSame_101 ?_
            refine W.lcmp hx hb dX3_isSame_102 ?_
            refine lv_if_ne (tgt := 110) hx hb dX3_isSame_103 (by decide) (fun c6 => ?_) (fun c6 => ?_)
            · have hsn : false = true ↔ ((rI (bm 4) a = rI (bm 4) b ∧ rI (bm 5) a = rI (bm 5) b) ∧ ∀ v, v < w + 1 → (fun v => rJ (bm 2) (12 * a + v) = rJ (bm 2) (12 * b + v) ∧ rJ (bm 3) (12 * a + v) = rJ (bm 3) (12 * b + v)) v) := sm_f2 (fun z => c6 ((lg_cmp_eq _ _).mpr z.2))
              refine lv_iconst (v := 0) hx hb dX3_isSame_110 (by decide) ?_
              refine lv_istore_n (lv' := [(3, .int 0), (0, .ref (bm 0)), (1, .int (nI a)), (2, .int (nI b)), (4, .int (nI w))]) hx hb dX3_isSame_111 rfl hl (by decide) rfl (fun ls hl => ?_)
              refine lv_iinc (v := (nI (w + 1))) (lv' := [(4, .int (nI (w + 1))), (3, .int 0), (0, .ref (bm 0)), (1, .int (nI a)), (2, .int (nI b))]) hx hb dX3_isSame_112 hl (k := 4) rfl (nI_1 w) (by decide) rfl (fun ls hl => ?_)
              refine lv_goto (tgt := 39) hx hb dX3_isSame_115 (by decide) ?_
              exact ih (w := w + 1) (sm := false) (hl := (lv_sub hl [2, 3, 4, 1, 0] rfl)) (hG := hG) (inv := ⟨by omega, hsn⟩) (hf := by omega)
            · have c6 := (lg_cmp_eq _ _).mp (by first | exact c6 | exact Classical.not_not.mp c6)
              have hsn : true = true ↔ ((rI (bm 4) a = rI (bm 4) b ∧ rI (bm 5) a = rI (bm 5) b) ∧ ∀ v, v < w + 1 → (fun v => rJ (bm 2) (12 * a + v) = rJ (bm 2) (12 * b + v) ∧ rJ (bm 3) (12 * a + v) = rJ (bm 3) (12 * b + v)) v) := sm_t inv.2 c1 ⟨c5, c6⟩
              refine lv_iconst (v := 1) hx hb dX3_isSame_106 (by decide) ?_
              refine lv_goto (tgt := 111) hx hb dX3_isSame_107 (by decide) ?_
              refine lv_istore_n (lv' := [(3, .int 1), (0, .ref (bm 0)), (1, .int (nI a)), (2, .int (nI b)), (4, .int (nI w))]) hx hb dX3_isSame_111 rfl hl (by decide) rfl (fun ls hl => ?_)
              refine lv_iinc (v := (nI (w + 1))) (lv' := [(4, .int (nI (w + 1))), (3, .int 1), (0, .ref (bm 0)), (1, .int (nI a)), (2, .int (nI b))]) hx hb dX3_isSame_112 hl (k := 4) rfl (nI_1 w) (by decide) rfl (fun ls hl => ?_)
              refine lv_goto (tgt := 39) hx hb dX3_isSame_115 (by decide) ?_
              exact ih (w := w + 1) (sm := true) (hl := (lv_sub hl [2, 3, 4, 1, 0] rfl)) (hG := hG) (inv := ⟨by omega, hsn⟩) (hf := by omega)
  · have c3 := (by first | exact c3 | exact Classical.not_not.mp c3)
    refine lv_aload_n hx hb dX3_isSame_15 rfl (lv_at hl 0 rfl) ?_
    refine r_Model_taken hx hb hts (by decide +kernel) hown hK hG mL0 mK0 mf5 (hts (.fieldLink RX3 20 "DotStoresModel" "taken" "[I") (by decide +kernel)) dX3_isSame_16 ?_
    refine lv_iload_n hx hb dX3_isSame_19 rfl (lv_at hl 1 rfl) ?_
    refine g_iald hx hb hK hG mL5 mK5 (a) rfl (by rw [mn5]; omega) (by rw [mn5]; decide) dX3_isSame_20 ?_
    refine lv_aload_n hx hb dX3_isSame_21 rfl (lv_at hl 0 rfl) ?_
    refine r_Model_taken hx hb hts (by decide +kernel) hown hK hG mL0 mK0 mf5 (hts (.fieldLink RX3 20 "DotStoresModel" "taken" "[I") (by decide +kernel)) dX3_isSame_22 ?_
    refine lv_iload_n hx hb dX3_isSame_25 rfl (lv_at hl 2 rfl) ?_
    refine g_iald hx hb hK hG mL5 mK5 (b) rfl (by rw [mn5]; omega) (by rw [mn5]; decide) dX3_isSame_26 ?_
    refine lv_icmp_ne (tgt := 34) hx hb dX3_isSame_27 (by decide) (fun c4 => ?_) (fun c4 => ?_)
    · have hsm : false = true ↔ (rI (bm 4) a = rI (bm 4) b ∧ rI (bm 5) a = rI (bm 5) b) := ⟨fun z => Bool.noConfusion z, fun z => absurd z.2 c4⟩
      refine lv_iconst (v := 0) hx hb dX3_isSame_34 (by decide) ?_
      refine lv_istore_n (lv' := [(3, .int 0), (0, .ref (bm 0)), (1, .int (nI a)), (2, .int (nI b))]) hx hb dX3_isSame_35 rfl hl (by decide) rfl (fun ls hl => ?_)
      refine lv_iconst (v := 0) hx hb dX3_isSame_36 (by decide) ?_
      refine lv_istore (lv' := [(4, .int 0), (3, .int 0), (0, .ref (bm 0)), (1, .int (nI a)), (2, .int (nI b))]) hx hb dX3_isSame_37 hl (by decide) rfl (fun ls hl => ?_)
      obtain ⟨w, ew⟩ : ∃ z : Nat, z = 0 := ⟨_, rfl⟩
      obtain ⟨sm, esm⟩ : ∃ z : Bool, z = false := ⟨_, rfl⟩
      replace hl : lv_has ls 7 [(0, .ref (bm 0)), (1, .int (nI a)), (2, .int (nI b)), (3, .int (bi sm)), (4, .int (nI w))] := by subst ew esm; exact (lv_sub hl [2, 3, 4, 1, 0] rfl)
      have inv : w ≤ 12 ∧ (sm = true ↔ ((rI (bm 4) a = rI (bm 4) b ∧ rI (bm 5) a = rI (bm 5) b) ∧ ∀ v, v < w → (fun v => rJ (bm 2) (12 * a + v) = rJ (bm 2) (12 * b + v) ∧ rJ (bm 3) (12 * a + v) = rJ (bm 3) (12 * b + v)) v)) := by
        subst ew esm
        exact ⟨by omega, sm_0 hsm⟩
      have hf : 12 < w + 13 := by omega
      clear ew esm
      generalize 13 = d at hf
      induction d generalizing w sm H locs ls with
      | zero => exact absurd hf (by have := inv.1; omega)
      | succ d ih =>
        refine lv_iload hx hb dX3_isSame_39 (lv_at hl 4 rfl) ?_
        refine lv_bipush (v := 12) hx hb dX3_isSame_41 (by decide) ?_
        refine lv_icmp_ge (tgt := 118) hx hb dX3_isSame_43 (by decide) (fun c0 => ?_) (fun c0 => ?_)
        · have hw : w = 12 := by
            rcases Nat.lt_or_ge w 12 with q | q
            · exact absurd c0 (nI_ge q (by decide))
            · omega
          subst hw
          refine lv_iconst (v := 0) hx hb dX3_isSame_118 (by decide) ?_
          refine lv_istore (lv' := [(4, .int 0), (0, .ref (bm 0)), (1, .int (nI a)), (2, .int (nI b)), (3, .int (bi sm))]) hx hb dX3_isSame_119 hl (by decide) rfl (fun ls hl => ?_)
          clear ih hf
          have hsm2 := inv.2
          clear inv
          generalize sm = sm9 at hl hsm2
          obtain ⟨w, ew⟩ : ∃ z : Nat, z = 0 := ⟨_, rfl⟩
          obtain ⟨sm, esm⟩ : ∃ z : Bool, z = sm9 := ⟨_, rfl⟩
          replace hl : lv_has ls 7 [(0, .ref (bm 0)), (1, .int (nI a)), (2, .int (nI b)), (3, .int (bi sm)), (4, .int (nI w))] := by subst ew esm; exact (lv_sub hl [1, 2, 3, 4, 0] rfl)
          have inv : w ≤ 32 ∧ (sm = true ↔ (((rI (bm 4) a = rI (bm 4) b ∧ rI (bm 5) a = rI (bm 5) b) ∧ ∀ v, v < 12 → (fun v => rJ (bm 2) (12 * a + v) = rJ (bm 2) (12 * b + v) ∧ rJ (bm 3) (12 * a + v) = rJ (bm 3) (12 * b + v)) v) ∧ ∀ v, v < w → (fun v => rI (bm 6) (32 * a + v) = rI (bm 6) (32 * b + v) ∧ rI (bm 7) (32 * a + v) = rI (bm 7) (32 * b + v) ∧ rI (bm 8) (32 * a + v) = rI (bm 8) (32 * b + v)) v)) := by
            subst ew esm
            exact ⟨by omega, sm_0 hsm2⟩
          have hf : 32 < w + 33 := by omega
          clear ew esm
          generalize 33 = d at hf
          induction d generalizing w sm H locs ls with
          | zero => exact absurd hf (by have := inv.1; omega)
          | succ d ih =>
            refine lv_iload hx hb dX3_isSame_121 (lv_at hl 4 rfl) ?_
            refine lv_bipush (v := 32) hx hb dX3_isSame_123 (by decide) ?_
            refine lv_icmp_ge (tgt := 213) hx hb dX3_isSame_125 (by decide) (fun c9 => ?_) (fun c9 => ?_)
            · have hw : w = 32 := by
                rcases Nat.lt_or_ge w 32 with q | q
                · exact absurd c9 (nI_ge q (by decide))
                · omega
              subst hw
              refine lv_iload_n hx hb dX3_isSame_213 rfl (lv_at hl 3 rfl) ?_
              refine W.widen (k := 0) (n := 0) (by omega) (by omega) ?_
              exact W.zret (v := (bi sm)) hx hb hr (bi_nar sm) (fun t9 h9 hW9 => ⟨⟨(bi sm), sm, rfl, ⟨rfl, inv.2.trans (isSame_iff hM ha hb0)⟩, hG.at h9⟩, hG.2.2.1.F h9⟩) hG.2.2.1.2.2 dX3_isSame_214
            · have hw : w < 32 := by
                rcases Nat.lt_or_ge w 32 with q | q
                · exact q
                · exact absurd (nI_le (a := 32) q (by omega)) c9
              refine lv_bipush (v := 32) hx hb dX3_isSame_128 (by decide) ?_
              refine lv_iload_n hx hb dX3_isSame_130 rfl (lv_at hl 1 rfl) ?_
              refine lv_imul hx hb dX3_isSame_131 ?_
              refine lv_iload hx hb dX3_isSame_132 (lv_at hl 4 rfl) ?_
              refine lv_iadd hx hb dX3_isSame_134 ?_
              refine lv_topi (fun z7 ez7 => ?_)
              obtain rfl : z7 = nI (32 * a + w) := ez7.trans (m32 a w)
              refine lv_istore (lv' := [(5, .int (nI (32 * a + w))), (0, .ref (bm 0)), (1, .int (nI a)), (2, .int (nI b)), (3, .int (bi sm)), (4, .int (nI w))]) hx hb dX3_isSame_135 hl (by decide) rfl (fun ls hl => ?_)
              refine lv_bipush (v := 32) hx hb dX3_isSame_137 (by decide) ?_
              refine lv_iload_n hx hb dX3_isSame_139 rfl (lv_at hl 3 rfl) ?_
              refine lv_imul hx hb dX3_isSame_140 ?_
              refine lv_iload hx hb dX3_isSame_141 (lv_at hl 5 rfl) ?_
              refine lv_iadd hx hb dX3_isSame_143 ?_
              refine lv_topi (fun z8 ez8 => ?_)
              obtain rfl : z8 = nI (32 * b + w) := ez8.trans (m32 b w)
              refine lv_istore (lv' := [(6, .int (nI (32 * b + w))), (5, .int (nI (32 * a + w))), (0, .ref (bm 0)), (1, .int (nI a)), (2, .int (nI b)), (3, .int (bi sm)), (4, .int (nI w))]) hx hb dX3_isSame_144 hl (by decide) rfl (fun ls hl => ?_)
              refine lv_iload_n hx hb dX3_isSame_146 rfl (lv_at hl 5 rfl) ?_
              refine lv_if_eq (tgt := 205) hx hb dX3_isSame_147 (by decide) (fun c1 => ?_) (fun c1 => ?_)
              · have c1 := bi_0.mp c1
                have hsn : false = true ↔ (((rI (bm 4) a = rI (bm 4) b ∧ rI (bm 5) a = rI (bm 5) b) ∧ ∀ v, v < 12 → (fun v => rJ (bm 2) (12 * a + v) = rJ (bm 2) (12 * b + v) ∧ rJ (bm 3) (12 * a + v) = rJ (bm 3) (12 * b + v)) v) ∧ ∀ v, v < w + 1 → (fun v => rI (bm 6) (32 * a + v) = rI (bm 6) (32 * b + v) ∧ rI (bm 7) (32 * a + v) = rI (bm 7) (32 * b + v) ∧ rI (bm 8) (32 * a + v) = rI (bm 8) (32 * b + v)) v) := sm_f1 inv.2 c1
                refine lv_iconst (v := 0) hx hb dX3_isSame_205 (by decide) ?_
                refine lv_istore_n (lv' := [(3, .int 0), (6, .int (nI (32 * b + w))), (5, .int (nI (32 * a + w))), (0, .ref (bm 0)), (1, .int (nI a)), (2, .int (nI b)), (4, .int (nI w))]) hx hb dX3_isSame_206 rfl hl (by decide) rfl (fun ls hl => ?_)
                refine lv_iinc (v := (nI (w + 1))) (lv' := [(4, .int (nI (w + 1))), (3, .int 0), (6, .int (nI (32 * b + w))), (5, .int (nI (32 * a + w))), (0, .ref (bm 0)), (1, .int (nI a)), (2, .int (nI b))]) hx hb dX3_isSame_207 hl (k := 6) rfl (nI_1 w) (by decide) rfl (fun ls hl => ?_)
                refine lv_goto (tgt := 121) hx hb dX3_isSame_210 (by decide) ?_
                exact ih (w := w + 1) (sm := false) (hl := (lv_sub hl [4, 5, 6, 1, 0] rfl)) (hG := hG) (inv := ⟨by omega, hsn⟩) (hf := by omega)
              · have c1 := ts_nf (fun z => c1 (bi_0.mpr z))
                refine lv_aload_n hx hb dX3_isSame_150 rfl (lv_at hl 2 rfl) ?_
                refine r_Model_time hx hb hts (by decide +kernel) hown hK hG mL0 mK0 mf6 (hts (.fieldLink RX3 23 "DotStoresModel" "time" "[I") (by decide +kernel)) dX3_isSame_151 ?_
                refine lv_iload hx hb dX3_isSame_154 (lv_at hl 1 rfl) ?_
                refine g_iald hx hb hK hG mL6 mK6 (32 * a + w) rfl (by rw [mn6]; omega) (by rw [mn6]; decide) dX3_isSame_156 ?_
                refine lv_aload_n hx hb dX3_isSame_157 rfl (lv_at hl 2 rfl) ?_
                refine r_Model_time hx hb hts (by decide +kernel) hown hK hG mL0 mK0 mf6 (hts (.fieldLink RX3 23 "DotStoresModel" "time" "[I") (by decide +kernel)) dX3_isSame_158 ?_
                refine lv_iload hx hb dX3_isSame_161 (lv_at hl 0 rfl) ?_
                refine g_iald hx hb hK hG mL6 mK6 (32 * b + w) rfl (by rw [mn6]; omega) (by rw [mn6]; decide) dX3_isSame_163 ?_
                refine lv_icmp_ne (tgt := 205) hx hb dX3_isSame_164 (by decide) (fun c7 => ?_) (fun c7 => ?_)
                · have hsn : false = true ↔ (((rI (bm 4) a = rI (bm 4) b ∧ rI (bm 5) a = rI (bm 5) b) ∧ ∀ v, v < 12 → (fun v => rJ (bm 2) (12 * a + v) = rJ (bm 2) (12 * b + v) ∧ rJ (bm 3) (12 * a + v) = rJ (bm 3) (12 * b + v)) v) ∧ ∀ v, v < w + 1 → (fun v => rI (bm 6) (32 * a + v) = rI (bm 6) (32 * b + v) ∧ rI (bm 7) (32 * a + v) = rI (bm 7) (32 * b + v) ∧ rI (bm 8) (32 * a + v) = rI (bm 8) (32 * b + v)) v) := sm_f2 (fun z => c7 z.1)
                  refine lv_iconst (v := 0) hx hb dX3_isSame_205 (by decide) ?_
                  refine lv_istore_n (lv' := [(3, .int 0), (6, .int (nI (32 * b + w))), (5, .int (nI (32 * a + w))), (0, .ref (bm 0)), (1, .int (nI a)), (2, .int (nI b)), (4, .int (nI w))]) hx hb dX3_isSame_206 rfl hl (by decide) rfl (fun ls hl => ?_)
                  refine lv_iinc (v := (nI (w + 1))) (lv' := [(4, .int (nI (w + 1))), (3, .int 0), (6, .int (nI (32 * b + w))), (5, .int (nI (32 * a + w))), (0, .ref (bm 0)), (1, .int (nI a)), (2, .int (nI b))]) hx hb dX3_isSame_207 hl (k := 6) rfl (nI_1 w) (by decide) rfl (fun ls hl => ?_)
                  refine lv_goto (tgt := 121) hx hb dX3_isSame_210 (by decide) ?_
                  exact ih (w := w + 1) (sm := false) (hl := (lv_sub hl [4, 5, 6, 1, 0] rfl)) (hG := hG) (inv := ⟨by omega, hsn⟩) (hf := by omega)
                · have c7 := (by first | exact c7 | exact Classical.not_not.mp c7)
                  refine lv_aload_n hx hb dX3_isSame_167 rfl (lv_at hl 2 rfl) ?_
                  refine r_Model_by hx hb hts (by decide +kernel) hown hK hG mL0 mK0 mf7 (hts (.fieldLink RX3 26 "DotStoresModel" "by" "[I") (by decide +kernel)) dX3_isSame_168 ?_
                  refine lv_iload hx hb dX3_isSame_171 (lv_at hl 1 rfl) ?_
                  refine g_iald hx hb hK hG mL7 mK7 (32 * a + w) rfl (by rw [mn7]; omega) (by rw [mn7]; decide) dX3_isSame_173 ?_
                  refine lv_aload_n hx hb dX3_isSame_174 rfl (lv_at hl 2 rfl) ?_
                  refine r_Model_by hx hb hts (by decide +kernel) hown hK hG mL0 mK0 mf7 (hts (.fieldLink RX3 26 "DotStoresModel" "by" "[I") (by decide +kernel)) dX3_isSame_175 ?_
                  refine lv_iload hx hb dX3_isSame_178 (lv_at hl 0 rfl) ?_
                  refine g_iald hx hb hK hG mL7 mK7 (32 * b + w) rfl (by rw [mn7]; omega) (by rw [mn7]; decide) dX3_isSame_180 ?_
                  refine lv_icmp_ne (tgt := 205) hx hb dX3_isSame_181 (by decide) (fun c8 => ?_) (fun c8 => ?_)
                  · have hsn : false = true ↔ (((rI (bm 4) a = rI (bm 4) b ∧ rI (bm 5) a = rI (bm 5) b) ∧ ∀ v, v < 12 → (fun v => rJ (bm 2) (12 * a + v) = rJ (bm 2) (12 * b + v) ∧ rJ (bm 3) (12 * a + v) = rJ (bm 3) (12 * b + v)) v) ∧ ∀ v, v < w + 1 → (fun v => rI (bm 6) (32 * a + v) = rI (bm 6) (32 * b + v) ∧ rI (bm 7) (32 * a + v) = rI (bm 7) (32 * b + v) ∧ rI (bm 8) (32 * a + v) = rI (bm 8) (32 * b + v)) v) := sm_f2 (fun z => c8 z.2.1)
                    refine lv_iconst (v := 0) hx hb dX3_isSame_205 (by decide) ?_
                    refine lv_istore_n (lv' := [(3, .int 0), (6, .int (nI (32 * b + w))), (5, .int (nI (32 * a + w))), (0, .ref (bm 0)), (1, .int (nI a)), (2, .int (nI b)), (4, .int (nI w))]) hx hb dX3_isSame_206 rfl hl (by decide) rfl (fun ls hl => ?_)
                    refine lv_iinc (v := (nI (w + 1))) (lv' := [(4, .int (nI (w + 1))), (3, .int 0), (6, .int (nI (32 * b + w))), (5, .int (nI (32 * a + w))), (0, .ref (bm 0)), (1, .int (nI a)), (2, .int (nI b))]) hx hb dX3_isSame_207 hl (k := 6) rfl (nI_1 w) (by decide) rfl (fun ls hl => ?_)
                    refine lv_goto (tgt := 121) hx hb dX3_isSame_210 (by decide) ?_
                    exact ih (w := w + 1) (sm := false) (hl := (lv_sub hl [4, 5, 6, 1, 0] rfl)) (hG := hG) (inv := ⟨by omega, hsn⟩) (hf := by omega)
                  · have c8 := (by first | exact c8 | exact Classical.not_not.mp c8)
                    refine lv_aload_n hx hb dX3_isSame_184 rfl (lv_at hl 2 rfl) ?_
                    refine r_Model_isIn hx hb hts (by decide +kernel) hown hK hG mL0 mK0 mf8 (hts (.fieldLink RX3 29 "DotStoresModel" "isIn" "[Z") (by decide +kernel)) dX3_isSame_185 ?_
                    refine lv_iload hx hb dX3_isSame_188 (lv_at hl 1 rfl) ?_
                    refine g_zald hx hb hK hG mL8 mK8 (32 * a + w) rfl (by rw [mn8]; omega) (by rw [mn8]; decide) dX3_isSame_190 ?_
                    refine lv_aload_n hx hb dX3_isSame_191 rfl (lv_at hl 2 rfl) ?_
                    refine r_Model_isIn hx hb hts (by decide +kernel) hown hK hG mL0 mK0 mf8 (hts (.fieldLink RX3 29 "DotStoresModel" "isIn" "[Z") (by decide +kernel)) dX3_isSame_192 ?_
                    refine lv_iload hx hb dX3_isSame_195 (lv_at hl 0 rfl) ?_
                    refine g_zald hx hb hK hG mL8 mK8 (32 * b + w) rfl (by rw [mn8]; omega) (by rw [mn8]; decide) dX3_isSame_197 ?_
                    refine lv_icmp_ne (tgt := 205) hx hb dX3_isSame_198 (by decide) (fun ca => ?_) (fun ca => ?_)
                    · have hsn : false = true ↔ (((rI (bm 4) a = rI (bm 4) b ∧ rI (bm 5) a = rI (bm 5) b) ∧ ∀ v, v < 12 → (fun v => rJ (bm 2) (12 * a + v) = rJ (bm 2) (12 * b + v) ∧ rJ (bm 3) (12 * a + v) = rJ (bm 3) (12 * b + v)) v) ∧ ∀ v, v < w + 1 → (fun v => rI (bm 6) (32 * a + v) = rI (bm 6) (32 * b + v) ∧ rI (bm 7) (32 * a + v) = rI (bm 7) (32 * b + v) ∧ rI (bm 8) (32 * a + v) = rI (bm 8) (32 * b + v)) v) := sm_f2 (fun z => ca z.2.2)
                      refine lv_iconst (v := 0) hx hb dX3_isSame_205 (by decide) ?_
                      refine lv_istore_n (lv' := [(3, .int 0), (6, .int (nI (32 * b + w))), (5, .int (nI (32 * a + w))), (0, .ref (bm 0)), (1, .int (nI a)), (2, .int (nI b)), (4, .int (nI w))]) hx hb dX3_isSame_206 rfl hl (by decide) rfl (fun ls hl => ?_)
                      refine lv_iinc (v := (nI (w + 1))) (lv' := [(4, .int (nI (w + 1))), (3, .int 0), (6, .int (nI (32 * b + w))), (5, .int (nI (32 * a + w))), (0, .ref (bm 0)), (1, .int (nI a)), (2, .int (nI b))]) hx hb dX3_isSame_207 hl (k := 6) rfl (nI_1 w) (by decide) rfl (fun ls hl => ?_)
                      refine lv_goto (tgt := 121) hx hb dX3_isSame_210 (by decide) ?_
                      exact ih (w := w + 1) (sm := false) (hl := (lv_sub hl [4, 5, 6, 1, 0] rfl)) (hG := hG) (inv := ⟨by omega, hsn⟩) (hf := by omega)
                    · have ca := (by first | exact ca | exact Classical.not_not.mp ca)
                      have hsn : true = true ↔ (((rI (bm 4) a = rI (bm 4) b ∧ rI (bm 5) a = rI (bm 5) b) ∧ ∀ v, v < 12 → (fun v => rJ (bm 2) (12 * a + v) = rJ (bm 2) (12 * b + v) ∧ rJ (bm 3) (12 * a + v) = rJ (bm 3) (12 * b + v)) v) ∧ ∀ v, v < w + 1 → (fun v => rI (bm 6) (32 * a + v) = rI (bm 6) (32 * b + v) ∧ rI (bm 7) (32 * a + v) = rI (bm 7) (32 * b + v) ∧ rI (bm 8) (32 * a + v) = rI (bm 8) (32 * b + v)) v) := sm_t inv.2 c1 ⟨c7, c8, ca⟩
                      refine lv_iconst (v := 1) hx hb dX3_isSame_201 (by decide) ?_
                      refine lv_goto (tgt := 206) hx hb dX3_isSame_202 (by decide) ?_
                      refine lv_istore_n (lv' := [(3, .int 1), (6, .int (nI (32 * b + w))), (5, .int (nI (32 * a + w))), (0, .ref (bm 0)), (1, .int (nI a)), (2, .int (nI b)), (4, .int (nI w))]) hx hb dX3_isSame_206 rfl hl (by decide) rfl (fun ls hl => ?_)
                      refine lv_iinc (v := (nI (w + 1))) (lv' := [(4, .int (nI (w + 1))), (3, .int 1), (6, .int (nI (32 * b + w))), (5, .int (nI (32 * a + w))), (0, .ref (bm 0)), (1, .int (nI a)), (2, .int (nI b))]) hx hb dX3_isSame_207 hl (k := 6) rfl (nI_1 w) (by decide) rfl (fun ls hl => ?_)
                      refine lv_goto (tgt := 121) hx hb dX3_isSame_210 (by decide) ?_
                      exact ih (w := w + 1) (sm := true) (hl := (lv_sub hl [4, 5, 6, 1, 0] rfl)) (hG := hG) (inv := ⟨by omega, hsn⟩) (hf := by omega)
        · have hw : w < 12 := by
            rcases Nat.lt_or_ge w 12 with q | q
            · exact q
            · exact absurd (nI_le (a := 12) q (by omega)) c0
          refine lv_iload_n hx hb dX3_isSame_46 rfl (lv_at hl 3 rfl) ?_
          refine lv_if_eq (tgt := 110) hx hb dX3_isSame_47 (by decide) (fun c1 => ?_) (fun c1 => ?_)
          · have c1 := bi_0.mp c1
            have hsn : false = true ↔ ((rI (bm 4) a = rI (bm 4) b ∧ rI (bm 5) a = rI (bm 5) b) ∧ ∀ v, v < w + 1 → (fun v => rJ (bm 2) (12 * a + v) = rJ (bm 2) (12 * b + v) ∧ rJ (bm 3) (12 * a + v) = rJ (bm 3) (12 * b + v)) v) := sm_f1 inv.2 c1
            refine lv_iconst (v := 0) hx hb dX3_isSame_110 (by decide) ?_
            refine lv_istore_n (lv' := [(3, .int 0), (0, .ref (bm 0)), (1, .int (nI a)), (2, .int (nI b)), (4, .int (nI w))]) hx hb dX3_isSame_111 rfl hl (by decide) rfl (fun ls hl => ?_)
            refine lv_iinc (v := (nI (w + 1))) (lv' := [(4, .int (nI (w + 1))), (3, .int 0), (0, .ref (bm 0)), (1, .int (nI a)), (2, .int (nI b))]) hx hb dX3_isSame_112 hl (k := 4) rfl (nI_1 w) (by decide) rfl (fun ls hl => ?_)
            refine lv_goto (tgt := 39) hx hb dX3_isSame_115 (by decide) ?_
            exact ih (w := w + 1) (sm := false) (hl := (lv_sub hl [2, 3, 4, 1, 0] rfl)) (hG := hG) (inv := ⟨by omega, hsn⟩) (hf := by omega)
          · have c1 := ts_nf (fun z => c1 (bi_0.mpr z))
            refine lv_aload_n hx hb dX3_isSame_50 rfl (lv_at hl 0 rfl) ?_
            refine r_Model_seen hx hb hts (by decide +kernel) hown hK hG mL0 mK0 mf2 (hts (.fieldLink RX3 7 "DotStoresModel" "seen" "[J") (by decide +kernel)) dX3_isSame_51 ?_
            refine lv_bipush (v := 12) hx hb dX3_isSame_54 (by decide) ?_
            refine lv_iload_n hx hb dX3_isSame_56 rfl (lv_at hl 1 rfl) ?_
            refine lv_imul hx hb dX3_isSame_57 ?_
            refine lv_iload hx hb dX3_isSame_58 (lv_at hl 4 rfl) ?_
            refine lv_iadd hx hb dX3_isSame_60 ?_
            refine lv_topi (fun z9 ez9 => ?_)
            obtain rfl : z9 = nI (12 * a + w) := ez9.trans (m12 a w)
            refine g_lald hx hb hK hG mL2 mK2 (12 * a + w) rfl (by rw [mn2]; omega) (by rw [mn2]; decide) dX3_isSame_61 ?_
            refine lv_aload_n hx hb dX3_isSame_62 rfl (lv_at hl 0 rfl) ?_
            refine r_Model_seen hx hb hts (by decide +kernel) hown hK hG mL0 mK0 mf2 (hts (.fieldLink RX3 7 "DotStoresModel" "seen" "[J") (by decide +kernel)) dX3_isSame_63 ?_
            refine lv_bipush (v := 12) hx hb dX3_isSame_66 (by decide) ?_
            refine lv_iload_n hx hb dX3_isSame_68 rfl (lv_at hl 2 rfl) ?_
            refine lv_imul hx hb dX3_isSame_69 ?_
            refine lv_iload hx hb dX3_isSame_70 (lv_at hl 4 rfl) ?_
            refine lv_iadd hx hb dX3_isSame_72 ?_
            refine lv_topi (fun z10 ez10 => ?_)
            obtain rfl : z10 = nI (12 * b + w) := ez10.trans (m12 b w)
            refine g_lald hx hb hK hG mL2 mK2 (12 * b + w) rfl (by rw [mn2]; omega) (by rw [mn2]; decide) dX3_isSame_73 ?_
            refine W.lcmp hx hb dX3_isSame_74 ?_
            refine lv_if_ne (tgt := 110) hx hb dX3_isSame_75 (by decide) (fun c5 => ?_) (fun c5 => ?_)
            · have hsn : false = true ↔ ((rI (bm 4) a = rI (bm 4) b ∧ rI (bm 5) a = rI (bm 5) b) ∧ ∀ v, v < w + 1 → (fun v => rJ (bm 2) (12 * a + v) = rJ (bm 2) (12 * b + v) ∧ rJ (bm 3) (12 * a + v) = rJ (bm 3) (12 * b + v)) v) := sm_f2 (fun z => c5 ((lg_cmp_eq _ _).mpr z.1))
              refine lv_iconst (v := 0) hx hb dX3_isSame_110 (by decide) ?_
              refine lv_istore_n (lv' := [(3, .int 0), (0, .ref (bm 0)), (1, .int (nI a)), (2, .int (nI b)), (4, .int (nI w))]) hx hb dX3_isSame_111 rfl hl (by decide) rfl (fun ls hl => ?_)
              refine lv_iinc (v := (nI (w + 1))) (lv' := [(4, .int (nI (w + 1))), (3, .int 0), (0, .ref (bm 0)), (1, .int (nI a)), (2, .int (nI b))]) hx hb dX3_isSame_112 hl (k := 4) rfl (nI_1 w) (by decide) rfl (fun ls hl => ?_)
              refine lv_goto (tgt := 39) hx hb dX3_isSame_115 (by decide) ?_
              exact ih (w := w + 1) (sm := false) (hl := (lv_sub hl [2, 3, 4, 1, 0] rfl)) (hG := hG) (inv := ⟨by omega, hsn⟩) (hf := by omega)
            · have c5 := (lg_cmp_eq _ _).mp (by first | exact c5 | exact Classical.not_not.mp c5)
              refine lv_aload_n hx hb dX3_isSame_78 rfl (lv_at hl 0 rfl) ?_
              refine r_Model_live hx hb hts (by decide +kernel) hown hK hG mL0 mK0 mf3 (hts (.fieldLink RX3 13 "DotStoresModel" "live" "[J") (by decide +kernel)) dX3_isSame_79 ?_
              refine lv_bipush (v := 12) hx hb dX3_isSame_82 (by decide) ?_
              refine lv_iload_n hx hb dX3_isSame_84 rfl (lv_at hl 1 rfl) ?_
              refine lv_imul hx hb dX3_isSame_85 ?_
              refine lv_iload hx hb dX3_isSame_86 (lv_at hl 4 rfl) ?_
              refine lv_iadd hx hb dX3_isSame_88 ?_
              refine lv_topi (fun z11 ez11 => ?_)
              obtain rfl : z11 = nI (12 * a + w) := ez11.trans (m12 a w)
              refine g_lald hx hb hK hG mL3 mK3 (12 * a + w) rfl (by rw [mn3]; omega) (by rw [mn3]; decide) dX3_isSame_89 ?_
              refine lv_aload_n hx hb dX3_isSame_90 rfl (lv_at hl 0 rfl) ?_
              refine r_Model_live hx hb hts (by decide +kernel) hown hK hG mL0 mK0 mf3 (hts (.fieldLink RX3 13 "DotStoresModel" "live" "[J") (by decide +kernel)) dX3_isSame_91 ?_
              refine lv_bipush (v := 12) hx hb dX3_isSame_94 (by decide) ?_
              refine lv_iload_n hx hb dX3_isSame_96 rfl (lv_at hl 2 rfl) ?_
              refine lv_imul hx hb dX3_isSame_97 ?_
              refine lv_iload hx hb dX3_isSame_98 (lv_at hl 4 rfl) ?_
              refine lv_iadd hx hb dX3_isSame_100 ?_
              refine lv_topi (fun z12 ez12 => ?_)
              obtain rfl : z12 = nI (12 * b + w) := ez12.trans (m12 b w)
              refine g_lald hx hb hK hG mL3 mK3 (12 * b + w) rfl (by rw [mn3]; omega) (by rw [mn3]; decide) dX3_isSame_101 ?_
              refine W.lcmp hx hb dX3_isSame_102 ?_
              refine lv_if_ne (tgt := 110) hx hb dX3_isSame_103 (by decide) (fun c6 => ?_) (fun c6 => ?_)
              · have hsn : false = true ↔ ((rI (bm 4) a = rI (bm 4) b ∧ rI (bm 5) a = rI (bm 5) b) ∧ ∀ v, v < w + 1 → (fun v => rJ (bm 2) (12 * a + v) = rJ (bm 2) (12 * b + v) ∧ rJ (bm 3) (12 * a + v) = rJ (bm 3) (12 * b + v)) v) := sm_f2 (fun z => c6 ((lg_cmp_eq _ _).mpr z.2))
                refine lv_iconst (v := 0) hx hb dX3_isSame_110 (by decide) ?_
                refine lv_istore_n (lv' := [(3, .int 0), (0, .ref (bm 0)), (1, .int (nI a)), (2, .int (nI b)), (4, .int (nI w))]) hx hb dX3_isSame_111 rfl hl (by decide) rfl (fun ls hl => ?_)
                refine lv_iinc (v := (nI (w + 1))) (lv' := [(4, .int (nI (w + 1))), (3, .int 0), (0, .ref (bm 0)), (1, .int (nI a)), (2, .int (nI b))]) hx hb dX3_isSame_112 hl (k := 4) rfl (nI_1 w) (by decide) rfl (fun ls hl => ?_)
                refine lv_goto (tgt := 39) hx hb dX3_isSame_115 (by decide) ?_
                exact ih (w := w + 1) (sm := false) (hl := (lv_sub hl [2, 3, 4, 1, 0] rfl)) (hG := hG) (inv := ⟨by omega, hsn⟩) (hf := by omega)
              · have c6 := (lg_cmp_eq _ _).mp (by first | exact c6 | exact Classical.not_not.mp c6)
                have hsn : true = true ↔ ((rI (bm 4) a = rI (bm 4) b ∧ rI (bm 5) a = rI (bm 5) b) ∧ ∀ v, v < w + 1 → (fun v => rJ (bm 2) (12 * a + v) = rJ (bm 2) (12 * b + v) ∧ rJ (bm 3) (12 * a + v) = rJ (bm 3) (12 * b + v)) v) := sm_t inv.2 c1 ⟨c5, c6⟩
                refine lv_iconst (v := 1) hx hb dX3_isSame_106 (by decide) ?_
                refine lv_goto (tgt := 111) hx hb dX3_isSame_107 (by decide) ?_
                refine lv_istore_n (lv' := [(3, .int 1), (0, .ref (bm 0)), (1, .int (nI a)), (2, .int (nI b)), (4, .int (nI w))]) hx hb dX3_isSame_111 rfl hl (by decide) rfl (fun ls hl => ?_)
                refine lv_iinc (v := (nI (w + 1))) (lv' := [(4, .int (nI (w + 1))), (3, .int 1), (0, .ref (bm 0)), (1, .int (nI a)), (2, .int (nI b))]) hx hb dX3_isSame_112 hl (k := 4) rfl (nI_1 w) (by decide) rfl (fun ls hl => ?_)
                refine lv_goto (tgt := 39) hx hb dX3_isSame_115 (by decide) ?_
                exact ih (w := w + 1) (sm := true) (hl := (lv_sub hl [2, 3, 4, 1, 0] rfl)) (hG := hG) (inv := ⟨by omega, hsn⟩) (hf := by omega)
    · have c4 := (by first | exact c4 | exact Classical.not_not.mp c4)
      have hsm : true = true ↔ (rI (bm 4) a = rI (bm 4) b ∧ rI (bm 5) a = rI (bm 5) b) := ⟨fun _ => ⟨c3, c4⟩, fun _ => rfl⟩
      refine lv_iconst (v := 1) hx hb dX3_isSame_30 (by decide) ?_
      refine lv_goto (tgt := 35) hx hb dX3_isSame_31 (by decide) ?_
      refine lv_istore_n (lv' := [(3, .int 1), (0, .ref (bm 0)), (1, .int (nI a)), (2, .int (nI b))]) hx hb dX3_isSame_35 rfl hl (by decide) rfl (fun ls hl => ?_)
      refine lv_iconst (v := 0) hx hb dX3_isSame_36 (by decide) ?_
      refine lv_istore (lv' := [(4, .int 0), (3, .int 1), (0, .ref (bm 0)), (1, .int (nI a)), (2, .int (nI b))]) hx hb dX3_isSame_37 hl (by decide) rfl (fun ls hl => ?_)
      obtain ⟨w, ew⟩ : ∃ z : Nat, z = 0 := ⟨_, rfl⟩
      obtain ⟨sm, esm⟩ : ∃ z : Bool, z = true := ⟨_, rfl⟩
      replace hl : lv_has ls 7 [(0, .ref (bm 0)), (1, .int (nI a)), (2, .int (nI b)), (3, .int (bi sm)), (4, .int (nI w))] := by subst ew esm; exact (lv_sub hl [2, 3, 4, 1, 0] rfl)
      have inv : w ≤ 12 ∧ (sm = true ↔ ((rI (bm 4) a = rI (bm 4) b ∧ rI (bm 5) a = rI (bm 5) b) ∧ ∀ v, v < w → (fun v => rJ (bm 2) (12 * a + v) = rJ (bm 2) (12 * b + v) ∧ rJ (bm 3) (12 * a + v) = rJ (bm 3) (12 * b + v)) v)) := by
        subst ew esm
        exact ⟨by omega, sm_0 hsm⟩
      have hf : 12 < w + 13 := by omega
      clear ew esm
      generalize 13 = d at hf
      induction d generalizing w sm H locs ls with
      | zero => exact absurd hf (by have := inv.1; omega)
      | succ d ih =>
        refine lv_iload hx hb dX3_isSame_39 (lv_at hl 4 rfl) ?_
        refine lv_bipush (v := 12) hx hb dX3_isSame_41 (by decide) ?_
        refine lv_icmp_ge (tgt := 118) hx hb dX3_isSame_43 (by decide) (fun c0 => ?_) (fun c0 => ?_)
        · have hw : w = 12 := by
            rcases Nat.lt_or_ge w 12 with q | q
            · exact absurd c0 (nI_ge q (by decide))
            · omega
          subst hw
          refine lv_iconst (v := 0) hx hb dX3_isSame_118 (by decide) ?_
          refine lv_istore (lv' := [(4, .int 0), (0, .ref (bm 0)), (1, .int (nI a)), (2, .int (nI b)), (3, .int (bi sm))]) hx hb dX3_isSame_119 hl (by decide) rfl (fun ls hl => ?_)
          clear ih hf
          have hsm2 := inv.2
          clear inv
          generalize sm = sm9 at hl hsm2
          obtain ⟨w, ew⟩ : ∃ z : Nat, z = 0 := ⟨_, rfl⟩
          obtain ⟨sm, esm⟩ : ∃ z : Bool, z = sm9 := ⟨_, rfl⟩
          replace hl : lv_has ls 7 [(0, .ref (bm 0)), (1, .int (nI a)), (2, .int (nI b)), (3, .int (bi sm)), (4, .int (nI w))] := by subst ew esm; exact (lv_sub hl [1, 2, 3, 4, 0] rfl)
          have inv : w ≤ 32 ∧ (sm = true ↔ (((rI (bm 4) a = rI (bm 4) b ∧ rI (bm 5) a = rI (bm 5) b) ∧ ∀ v, v < 12 → (fun v => rJ (bm 2) (12 * a + v) = rJ (bm 2) (12 * b + v) ∧ rJ (bm 3) (12 * a + v) = rJ (bm 3) (12 * b + v)) v) ∧ ∀ v, v < w → (fun v => rI (bm 6) (32 * a + v) = rI (bm 6) (32 * b + v) ∧ rI (bm 7) (32 * a + v) = rI (bm 7) (32 * b + v) ∧ rI (bm 8) (32 * a + v) = rI (bm 8) (32 * b + v)) v)) := by
            subst ew esm
            exact ⟨by omega, sm_0 hsm2⟩
          have hf : 32 < w + 33 := by omega
          clear ew esm
          generalize 33 = d at hf
          induction d generalizing w sm H locs ls with
          | zero => exact absurd hf (by have := inv.1; omega)
          | succ d ih =>
            refine lv_iload hx hb dX3_isSame_121 (lv_at hl 4 rfl) ?_
            refine lv_bipush (v := 32) hx hb dX3_isSame_123 (by decide) ?_
            refine lv_icmp_ge (tgt := 213) hx hb dX3_isSame_125 (by decide) (fun c9 => ?_) (fun c9 => ?_)
            · have hw : w = 32 := by
                rcases Nat.lt_or_ge w 32 with q | q
                · exact absurd c9 (nI_ge q (by decide))
                · omega
              subst hw
              refine lv_iload_n hx hb dX3_isSame_213 rfl (lv_at hl 3 rfl) ?_
              refine W.widen (k := 0) (n := 0) (by omega) (by omega) ?_
              exact W.zret (v := (bi sm)) hx hb hr (bi_nar sm) (fun t9 h9 hW9 => ⟨⟨(bi sm), sm, rfl, ⟨rfl, inv.2.trans (isSame_iff hM ha hb0)⟩, hG.at h9⟩, hG.2.2.1.F h9⟩) hG.2.2.1.2.2 dX3_isSame_214
            · have hw : w < 32 := by
                rcases Nat.lt_or_ge w 32 with q | q
                · exact q
                · exact absurd (nI_le (a := 32) q (by omega)) c9
              refine lv_bipush (v := 32) hx hb dX3_isSame_128 (by decide) ?_
              refine lv_iload_n hx hb dX3_isSame_130 rfl (lv_at hl 1 rfl) ?_
              refine lv_imul hx hb dX3_isSame_131 ?_
              refine lv_iload hx hb dX3_isSame_132 (lv_at hl 4 rfl) ?_
              refine lv_iadd hx hb dX3_isSame_134 ?_
              refine lv_topi (fun z13 ez13 => ?_)
              obtain rfl : z13 = nI (32 * a + w) := ez13.trans (m32 a w)
              refine lv_istore (lv' := [(5, .int (nI (32 * a + w))), (0, .ref (bm 0)), (1, .int (nI a)), (2, .int (nI b)), (3, .int (bi sm)), (4, .int (nI w))]) hx hb dX3_isSame_135 hl (by decide) rfl (fun ls hl => ?_)
              refine lv_bipush (v := 32) hx hb dX3_isSame_137 (by decide) ?_
              refine lv_iload_n hx hb dX3_isSame_139 rfl (lv_at hl 3 rfl) ?_
              refine lv_imul hx hb dX3_isSame_140 ?_
              refine lv_iload hx hb dX3_isSame_141 (lv_at hl 5 rfl) ?_
              refine lv_iadd hx hb dX3_isSame_143 ?_
              refine lv_topi (fun z14 ez14 => ?_)
              obtain rfl : z14 = nI (32 * b + w) := ez14.trans (m32 b w)
              refine lv_istore (lv' := [(6, .int (nI (32 * b + w))), (5, .int (nI (32 * a + w))), (0, .ref (bm 0)), (1, .int (nI a)), (2, .int (nI b)), (3, .int (bi sm)), (4, .int (nI w))]) hx hb dX3_isSame_144 hl (by decide) rfl (fun ls hl => ?_)
              refine lv_iload_n hx hb dX3_isSame_146 rfl (lv_at hl 5 rfl) ?_
              refine lv_if_eq (tgt := 205) hx hb dX3_isSame_147 (by decide) (fun c1 => ?_) (fun c1 => ?_)
              · have c1 := bi_0.mp c1
                have hsn : false = true ↔ (((rI (bm 4) a = rI (bm 4) b ∧ rI (bm 5) a = rI (bm 5) b) ∧ ∀ v, v < 12 → (fun v => rJ (bm 2) (12 * a + v) = rJ (bm 2) (12 * b + v) ∧ rJ (bm 3) (12 * a + v) = rJ (bm 3) (12 * b + v)) v) ∧ ∀ v, v < w + 1 → (fun v => rI (bm 6) (32 * a + v) = rI (bm 6) (32 * b + v) ∧ rI (bm 7) (32 * a + v) = rI (bm 7) (32 * b + v) ∧ rI (bm 8) (32 * a + v) = rI (bm 8) (32 * b + v)) v) := sm_f1 inv.2 c1
                refine lv_iconst (v := 0) hx hb dX3_isSame_205 (by decide) ?_
                refine lv_istore_n (lv' := [(3, .int 0), (6, .int (nI (32 * b + w))), (5, .int (nI (32 * a + w))), (0, .ref (bm 0)), (1, .int (nI a)), (2, .int (nI b)), (4, .int (nI w))]) hx hb dX3_isSame_206 rfl hl (by decide) rfl (fun ls hl => ?_)
                refine lv_iinc (v := (nI (w + 1))) (lv' := [(4, .int (nI (w + 1))), (3, .int 0), (6, .int (nI (32 * b + w))), (5, .int (nI (32 * a + w))), (0, .ref (bm 0)), (1, .int (nI a)), (2, .int (nI b))]) hx hb dX3_isSame_207 hl (k := 6) rfl (nI_1 w) (by decide) rfl (fun ls hl => ?_)
                refine lv_goto (tgt := 121) hx hb dX3_isSame_210 (by decide) ?_
                exact ih (w := w + 1) (sm := false) (hl := (lv_sub hl [4, 5, 6, 1, 0] rfl)) (hG := hG) (inv := ⟨by omega, hsn⟩) (hf := by omega)
              · have c1 := ts_nf (fun z => c1 (bi_0.mpr z))
                refine lv_aload_n hx hb dX3_isSame_150 rfl (lv_at hl 2 rfl) ?_
                refine r_Model_time hx hb hts (by decide +kernel) hown hK hG mL0 mK0 mf6 (hts (.fieldLink RX3 23 "DotStoresModel" "time" "[I") (by decide +kernel)) dX3_isSame_151 ?_
                refine lv_iload hx hb dX3_isSame_154 (lv_at hl 1 rfl) ?_
                refine g_iald hx hb hK hG mL6 mK6 (32 * a + w) rfl (by rw [mn6]; omega) (by rw [mn6]; decide) dX3_isSame_156 ?_
                refine lv_aload_n hx hb dX3_isSame_157 rfl (lv_at hl 2 rfl) ?_
                refine r_Model_time hx hb hts (by decide +kernel) hown hK hG mL0 mK0 mf6 (hts (.fieldLink RX3 23 "DotStoresModel" "time" "[I") (by decide +kernel)) dX3_isSame_158 ?_
                refine lv_iload hx hb dX3_isSame_161 (lv_at hl 0 rfl) ?_
                refine g_iald hx hb hK hG mL6 mK6 (32 * b + w) rfl (by rw [mn6]; omega) (by rw [mn6]; decide) dX3_isSame_163 ?_
                refine lv_icmp_ne (tgt := 205) hx hb dX3_isSame_164 (by decide) (fun c7 => ?_) (fun c7 => ?_)
                · have hsn : false = true ↔ (((rI (bm 4) a = rI (bm 4) b ∧ rI (bm 5) a = rI (bm 5) b) ∧ ∀ v, v < 12 → (fun v => rJ (bm 2) (12 * a + v) = rJ (bm 2) (12 * b + v) ∧ rJ (bm 3) (12 * a + v) = rJ (bm 3) (12 * b + v)) v) ∧ ∀ v, v < w + 1 → (fun v => rI (bm 6) (32 * a + v) = rI (bm 6) (32 * b + v) ∧ rI (bm 7) (32 * a + v) = rI (bm 7) (32 * b + v) ∧ rI (bm 8) (32 * a + v) = rI (bm 8) (32 * b + v)) v) := sm_f2 (fun z => c7 z.1)
                  refine lv_iconst (v := 0) hx hb dX3_isSame_205 (by decide) ?_
                  refine lv_istore_n (lv' := [(3, .int 0), (6, .int (nI (32 * b + w))), (5, .int (nI (32 * a + w))), (0, .ref (bm 0)), (1, .int (nI a)), (2, .int (nI b)), (4, .int (nI w))]) hx hb dX3_isSame_206 rfl hl (by decide) rfl (fun ls hl => ?_)
                  refine lv_iinc (v := (nI (w + 1))) (lv' := [(4, .int (nI (w + 1))), (3, .int 0), (6, .int (nI (32 * b + w))), (5, .int (nI (32 * a + w))), (0, .ref (bm 0)), (1, .int (nI a)), (2, .int (nI b))]) hx hb dX3_isSame_207 hl (k := 6) rfl (nI_1 w) (by decide) rfl (fun ls hl => ?_)
                  refine lv_goto (tgt := 121) hx hb dX3_isSame_210 (by decide) ?_
                  exact ih (w := w + 1) (sm := false) (hl := (lv_sub hl [4, 5, 6, 1, 0] rfl)) (hG := hG) (inv := ⟨by omega, hsn⟩) (hf := by omega)
                · have c7 := (by first | exact c7 | exact Classical.not_not.mp c7)
                  refine lv_aload_n hx hb dX3_isSame_167 rfl (lv_at hl 2 rfl) ?_
                  refine r_Model_by hx hb hts (by decide +kernel) hown hK hG mL0 mK0 mf7 (hts (.fieldLink RX3 26 "DotStoresModel" "by" "[I") (by decide +kernel)) dX3_isSame_168 ?_
                  refine lv_iload hx hb dX3_isSame_171 (lv_at hl 1 rfl) ?_
                  refine g_iald hx hb hK hG mL7 mK7 (32 * a + w) rfl (by rw [mn7]; omega) (by rw [mn7]; decide) dX3_isSame_173 ?_
                  refine lv_aload_n hx hb dX3_isSame_174 rfl (lv_at hl 2 rfl) ?_
                  refine r_Model_by hx hb hts (by decide +kernel) hown hK hG mL0 mK0 mf7 (hts (.fieldLink RX3 26 "DotStoresModel" "by" "[I") (by decide +kernel)) dX3_isSame_175 ?_
                  refine lv_iload hx hb dX3_isSame_178 (lv_at hl 0 rfl) ?_
                  refine g_iald hx hb hK hG mL7 mK7 (32 * b + w) rfl (by rw [mn7]; omega) (by rw [mn7]; decide) dX3_isSame_180 ?_
                  refine lv_icmp_ne (tgt := 205) hx hb dX3_isSame_181 (by decide) (fun c8 => ?_) (fun c8 => ?_)
                  · have hsn : false = true ↔ (((rI (bm 4) a = rI (bm 4) b ∧ rI (bm 5) a = rI (bm 5) b) ∧ ∀ v, v < 12 → (fun v => rJ (bm 2) (12 * a + v) = rJ (bm 2) (12 * b + v) ∧ rJ (bm 3) (12 * a + v) = rJ (bm 3) (12 * b + v)) v) ∧ ∀ v, v < w + 1 → (fun v => rI (bm 6) (32 * a + v) = rI (bm 6) (32 * b + v) ∧ rI (bm 7) (32 * a + v) = rI (bm 7) (32 * b + v) ∧ rI (bm 8) (32 * a + v) = rI (bm 8) (32 * b + v)) v) := sm_f2 (fun z => c8 z.2.1)
                    refine lv_iconst (v := 0) hx hb dX3_isSame_205 (by decide) ?_
                    refine lv_istore_n (lv' := [(3, .int 0), (6, .int (nI (32 * b + w))), (5, .int (nI (32 * a + w))), (0, .ref (bm 0)), (1, .int (nI a)), (2, .int (nI b)), (4, .int (nI w))]) hx hb dX3_isSame_206 rfl hl (by decide) rfl (fun ls hl => ?_)
                    refine lv_iinc (v := (nI (w + 1))) (lv' := [(4, .int (nI (w + 1))), (3, .int 0), (6, .int (nI (32 * b + w))), (5, .int (nI (32 * a + w))), (0, .ref (bm 0)), (1, .int (nI a)), (2, .int (nI b))]) hx hb dX3_isSame_207 hl (k := 6) rfl (nI_1 w) (by decide) rfl (fun ls hl => ?_)
                    refine lv_goto (tgt := 121) hx hb dX3_isSame_210 (by decide) ?_
                    exact ih (w := w + 1) (sm := false) (hl := (lv_sub hl [4, 5, 6, 1, 0] rfl)) (hG := hG) (inv := ⟨by omega, hsn⟩) (hf := by omega)
                  · have c8 := (by first | exact c8 | exact Classical.not_not.mp c8)
                    refine lv_aload_n hx hb dX3_isSame_184 rfl (lv_at hl 2 rfl) ?_
                    refine r_Model_isIn hx hb hts (by decide +kernel) hown hK hG mL0 mK0 mf8 (hts (.fieldLink RX3 29 "DotStoresModel" "isIn" "[Z") (by decide +kernel)) dX3_isSame_185 ?_
                    refine lv_iload hx hb dX3_isSame_188 (lv_at hl 1 rfl) ?_
                    refine g_zald hx hb hK hG mL8 mK8 (32 * a + w) rfl (by rw [mn8]; omega) (by rw [mn8]; decide) dX3_isSame_190 ?_
                    refine lv_aload_n hx hb dX3_isSame_191 rfl (lv_at hl 2 rfl) ?_
                    refine r_Model_isIn hx hb hts (by decide +kernel) hown hK hG mL0 mK0 mf8 (hts (.fieldLink RX3 29 "DotStoresModel" "isIn" "[Z") (by decide +kernel)) dX3_isSame_192 ?_
                    refine lv_iload hx hb dX3_isSame_195 (lv_at hl 0 rfl) ?_
                    refine g_zald hx hb hK hG mL8 mK8 (32 * b + w) rfl (by rw [mn8]; omega) (by rw [mn8]; decide) dX3_isSame_197 ?_
                    refine lv_icmp_ne (tgt := 205) hx hb dX3_isSame_198 (by decide) (fun ca => ?_) (fun ca => ?_)
                    · have hsn : false = true ↔ (((rI (bm 4) a = rI (bm 4) b ∧ rI (bm 5) a = rI (bm 5) b) ∧ ∀ v, v < 12 → (fun v => rJ (bm 2) (12 * a + v) = rJ (bm 2) (12 * b + v) ∧ rJ (bm 3) (12 * a + v) = rJ (bm 3) (12 * b + v)) v) ∧ ∀ v, v < w + 1 → (fun v => rI (bm 6) (32 * a + v) = rI (bm 6) (32 * b + v) ∧ rI (bm 7) (32 * a + v) = rI (bm 7) (32 * b + v) ∧ rI (bm 8) (32 * a + v) = rI (bm 8) (32 * b + v)) v) := sm_f2 (fun z => ca z.2.2)
                      refine lv_iconst (v := 0) hx hb dX3_isSame_205 (by decide) ?_
                      refine lv_istore_n (lv' := [(3, .int 0), (6, .int (nI (32 * b + w))), (5, .int (nI (32 * a + w))), (0, .ref (bm 0)), (1, .int (nI a)), (2, .int (nI b)), (4, .int (nI w))]) hx hb dX3_isSame_206 rfl hl (by decide) rfl (fun ls hl => ?_)
                      refine lv_iinc (v := (nI (w + 1))) (lv' := [(4, .int (nI (w + 1))), (3, .int 0), (6, .int (nI (32 * b + w))), (5, .int (nI (32 * a + w))), (0, .ref (bm 0)), (1, .int (nI a)), (2, .int (nI b))]) hx hb dX3_isSame_207 hl (k := 6) rfl (nI_1 w) (by decide) rfl (fun ls hl => ?_)
                      refine lv_goto (tgt := 121) hx hb dX3_isSame_210 (by decide) ?_
                      exact ih (w := w + 1) (sm := false) (hl := (lv_sub hl [4, 5, 6, 1, 0] rfl)) (hG := hG) (inv := ⟨by omega, hsn⟩) (hf := by omega)
                    · have ca := (by first | exact ca | exact Classical.not_not.mp ca)
                      have hsn : true = true ↔ (((rI (bm 4) a = rI (bm 4) b ∧ rI (bm 5) a = rI (bm 5) b) ∧ ∀ v, v < 12 → (fun v => rJ (bm 2) (12 * a + v) = rJ (bm 2) (12 * b + v) ∧ rJ (bm 3) (12 * a + v) = rJ (bm 3) (12 * b + v)) v) ∧ ∀ v, v < w + 1 → (fun v => rI (bm 6) (32 * a + v) = rI (bm 6) (32 * b + v) ∧ rI (bm 7) (32 * a + v) = rI (bm 7) (32 * b + v) ∧ rI (bm 8) (32 * a + v) = rI (bm 8) (32 * b + v)) v) := sm_t inv.2 c1 ⟨c7, c8, ca⟩
                      refine lv_iconst (v := 1) hx hb dX3_isSame_201 (by decide) ?_
                      refine lv_goto (tgt := 206) hx hb dX3_isSame_202 (by decide) ?_
                      refine lv_istore_n (lv' := [(3, .int 1), (6, .int (nI (32 * b + w))), (5, .int (nI (32 * a + w))), (0, .ref (bm 0)), (1, .int (nI a)), (2, .int (nI b)), (4, .int (nI w))]) hx hb dX3_isSame_206 rfl hl (by decide) rfl (fun ls hl => ?_)
                      refine lv_iinc (v := (nI (w + 1))) (lv' := [(4, .int (nI (w + 1))), (3, .int 1), (6, .int (nI (32 * b + w))), (5, .int (nI (32 * a + w))), (0, .ref (bm 0)), (1, .int (nI a)), (2, .int (nI b))]) hx hb dX3_isSame_207 hl (k := 6) rfl (nI_1 w) (by decide) rfl (fun ls hl => ?_)
                      refine lv_goto (tgt := 121) hx hb dX3_isSame_210 (by decide) ?_
                      exact ih (w := w + 1) (sm := true) (hl := (lv_sub hl [4, 5, 6, 1, 0] rfl)) (hG := hG) (inv := ⟨by omega, hsn⟩) (hf := by omega)
        · have hw : w < 12 := by
            rcases Nat.lt_or_ge w 12 with q | q
            · exact q
            · exact absurd (nI_le (a := 12) q (by omega)) c0
          refine lv_iload_n hx hb dX3_isSame_46 rfl (lv_at hl 3 rfl) ?_
          refine lv_if_eq (tgt := 110) hx hb dX3_isSame_47 (by decide) (fun c1 => ?_) (fun c1 => ?_)
          · have c1 := bi_0.mp c1
            have hsn : false = true ↔ ((rI (bm 4) a = rI (bm 4) b ∧ rI (bm 5) a = rI (bm 5) b) ∧ ∀ v, v < w + 1 → (fun v => rJ (bm 2) (12 * a + v) = rJ (bm 2) (12 * b + v) ∧ rJ (bm 3) (12 * a + v) = rJ (bm 3) (12 * b + v)) v) := sm_f1 inv.2 c1
            refine lv_iconst (v := 0) hx hb dX3_isSame_110 (by decide) ?_
            refine lv_istore_n (lv' := [(3, .int 0), (0, .ref (bm 0)), (1, .int (nI a)), (2, .int (nI b)), (4, .int (nI w))]) hx hb dX3_isSame_111 rfl hl (by decide) rfl (fun ls hl => ?_)
            refine lv_iinc (v := (nI (w + 1))) (lv' := [(4, .int (nI (w + 1))), (3, .int 0), (0, .ref (bm 0)), (1, .int (nI a)), (2, .int (nI b))]) hx hb dX3_isSame_112 hl (k := 4) rfl (nI_1 w) (by decide) rfl (fun ls hl => ?_)
            refine lv_goto (tgt := 39) hx hb dX3_isSame_115 (by decide) ?_
            exact ih (w := w + 1) (sm := false) (hl := (lv_sub hl [2, 3, 4, 1, 0] rfl)) (hG := hG) (inv := ⟨by omega, hsn⟩) (hf := by omega)
          · have c1 := ts_nf (fun z => c1 (bi_0.mpr z))
            refine lv_aload_n hx hb dX3_isSame_50 rfl (lv_at hl 0 rfl) ?_
            refine r_Model_seen hx hb hts (by decide +kernel) hown hK hG mL0 mK0 mf2 (hts (.fieldLink RX3 7 "DotStoresModel" "seen" "[J") (by decide +kernel)) dX3_isSame_51 ?_
            refine lv_bipush (v := 12) hx hb dX3_isSame_54 (by decide) ?_
            refine lv_iload_n hx hb dX3_isSame_56 rfl (lv_at hl 1 rfl) ?_
            refine lv_imul hx hb dX3_isSame_57 ?_
            refine lv_iload hx hb dX3_isSame_58 (lv_at hl 4 rfl) ?_
            refine lv_iadd hx hb dX3_isSame_60 ?_
            refine lv_topi (fun z15 ez15 => ?_)
            obtain rfl : z15 = nI (12 * a + w) := ez15.trans (m12 a w)
            refine g_lald hx hb hK hG mL2 mK2 (12 * a + w) rfl (by rw [mn2]; omega) (by rw [mn2]; decide) dX3_isSame_61 ?_
            refine lv_aload_n hx hb dX3_isSame_62 rfl (lv_at hl 0 rfl) ?_
            refine r_Model_seen hx hb hts (by decide +kernel) hown hK hG mL0 mK0 mf2 (hts (.fieldLink RX3 7 "DotStoresModel" "seen" "[J") (by decide +kernel)) dX3_isSame_63 ?_
            refine lv_bipush (v := 12) hx hb dX3_isSame_66 (by decide) ?_
            refine lv_iload_n hx hb dX3_isSame_68 rfl (lv_at hl 2 rfl) ?_
            refine lv_imul hx hb dX3_isSame_69 ?_
            refine lv_iload hx hb dX3_isSame_70 (lv_at hl 4 rfl) ?_
            refine lv_iadd hx hb dX3_isSame_72 ?_
            refine lv_topi (fun z16 ez16 => ?_)
            obtain rfl : z16 = nI (12 * b + w) := ez16.trans (m12 b w)
            refine g_lald hx hb hK hG mL2 mK2 (12 * b + w) rfl (by rw [mn2]; omega) (by rw [mn2]; decide) dX3_isSame_73 ?_
            refine W.lcmp hx hb dX3_isSame_74 ?_
            refine lv_if_ne (tgt := 110) hx hb dX3_isSame_75 (by decide) (fun c5 => ?_) (fun c5 => ?_)
            · have hsn : false = true ↔ ((rI (bm 4) a = rI (bm 4) b ∧ rI (bm 5) a = rI (bm 5) b) ∧ ∀ v, v < w + 1 → (fun v => rJ (bm 2) (12 * a + v) = rJ (bm 2) (12 * b + v) ∧ rJ (bm 3) (12 * a + v) = rJ (bm 3) (12 * b + v)) v) := sm_f2 (fun z => c5 ((lg_cmp_eq _ _).mpr z.1))
              refine lv_iconst (v := 0) hx hb dX3_isSame_110 (by decide) ?_
              refine lv_istore_n (lv' := [(3, .int 0), (0, .ref (bm 0)), (1, .int (nI a)), (2, .int (nI b)), (4, .int (nI w))]) hx hb dX3_isSame_111 rfl hl (by decide) rfl (fun ls hl => ?_)
              refine lv_iinc (v := (nI (w + 1))) (lv' := [(4, .int (nI (w + 1))), (3, .int 0), (0, .ref (bm 0)), (1, .int (nI a)), (2, .int (nI b))]) hx hb dX3_isSame_112 hl (k := 4) rfl (nI_1 w) (by decide) rfl (fun ls hl => ?_)
              refine lv_goto (tgt := 39) hx hb dX3_isSame_115 (by decide) ?_
              exact ih (w := w + 1) (sm := false) (hl := (lv_sub hl [2, 3, 4, 1, 0] rfl)) (hG := hG) (inv := ⟨by omega, hsn⟩) (hf := by omega)
            · have c5 := (lg_cmp_eq _ _).mp (by first | exact c5 | exact Classical.not_not.mp c5)
              refine lv_aload_n hx hb dX3_isSame_78 rfl (lv_at hl 0 rfl) ?_
              refine r_Model_live hx hb hts (by decide +kernel) hown hK hG mL0 mK0 mf3 (hts (.fieldLink RX3 13 "DotStoresModel" "live" "[J") (by decide +kernel)) dX3_isSame_79 ?_
              refine lv_bipush (v := 12) hx hb dX3_isSame_82 (by decide) ?_
              refine lv_iload_n hx hb dX3_isSame_84 rfl (lv_at hl 1 rfl) ?_
              refine lv_imul hx hb dX3_isSame_85 ?_
              refine lv_iload hx hb dX3_isSame_86 (lv_at hl 4 rfl) ?_
              refine lv_iadd hx hb dX3_isSame_88 ?_
              refine lv_topi (fun z17 ez17 => ?_)
              obtain rfl : z17 = nI (12 * a + w) := ez17.trans (m12 a w)
              refine g_lald hx hb hK hG mL3 mK3 (12 * a + w) rfl (by rw [mn3]; omega) (by rw [mn3]; decide) dX3_isSame_89 ?_
              refine lv_aload_n hx hb dX3_isSame_90 rfl (lv_at hl 0 rfl) ?_
              refine r_Model_live hx hb hts (by decide +kernel) hown hK hG mL0 mK0 mf3 (hts (.fieldLink RX3 13 "DotStoresModel" "live" "[J") (by decide +kernel)) dX3_isSame_91 ?_
              refine lv_bipush (v := 12) hx hb dX3_isSame_94 (by decide) ?_
              refine lv_iload_n hx hb dX3_isSame_96 rfl (lv_at hl 2 rfl) ?_
              refine lv_imul hx hb dX3_isSame_97 ?_
              refine lv_iload hx hb dX3_isSame_98 (lv_at hl 4 rfl) ?_
              refine lv_iadd hx hb dX3_isSame_100 ?_
              refine lv_topi (fun z18 ez18 => ?_)
              obtain rfl : z18 = nI (12 * b + w) := ez18.trans (m12 b w)
              refine g_lald hx hb hK hG mL3 mK3 (12 * b + w) rfl (by rw [mn3]; omega) (by rw [mn3]; decide) dX3_isSame_101 ?_
              refine W.lcmp hx hb dX3_isSame_102 ?_
              refine lv_if_ne (tgt := 110) hx hb dX3_isSame_103 (by decide) (fun c6 => ?_) (fun c6 => ?_)
              · have hsn : false = true ↔ ((rI (bm 4) a = rI (bm 4) b ∧ rI (bm 5) a = rI (bm 5) b) ∧ ∀ v, v < w + 1 → (fun v => rJ (bm 2) (12 * a + v) = rJ (bm 2) (12 * b + v) ∧ rJ (bm 3) (12 * a + v) = rJ (bm 3) (12 * b + v)) v) := sm_f2 (fun z => c6 ((lg_cmp_eq _ _).mpr z.2))
                refine lv_iconst (v := 0) hx hb dX3_isSame_110 (by decide) ?_
                refine lv_istore_n (lv' := [(3, .int 0), (0, .ref (bm 0)), (1, .int (nI a)), (2, .int (nI b)), (4, .int (nI w))]) hx hb dX3_isSame_111 rfl hl (by decide) rfl (fun ls hl => ?_)
                refine lv_iinc (v := (nI (w + 1))) (lv' := [(4, .int (nI (w + 1))), (3, .int 0), (0, .ref (bm 0)), (1, .int (nI a)), (2, .int (nI b))]) hx hb dX3_isSame_112 hl (k := 4) rfl (nI_1 w) (by decide) rfl (fun ls hl => ?_)
                refine lv_goto (tgt := 39) hx hb dX3_isSame_115 (by decide) ?_
                exact ih (w := w + 1) (sm := false) (hl := (lv_sub hl [2, 3, 4, 1, 0] rfl)) (hG := hG) (inv := ⟨by omega, hsn⟩) (hf := by omega)
              · have c6 := (lg_cmp_eq _ _).mp (by first | exact c6 | exact Classical.not_not.mp c6)
                have hsn : true = true ↔ ((rI (bm 4) a = rI (bm 4) b ∧ rI (bm 5) a = rI (bm 5) b) ∧ ∀ v, v < w + 1 → (fun v => rJ (bm 2) (12 * a + v) = rJ (bm 2) (12 * b + v) ∧ rJ (bm 3) (12 * a + v) = rJ (bm 3) (12 * b + v)) v) := sm_t inv.2 c1 ⟨c5, c6⟩
                refine lv_iconst (v := 1) hx hb dX3_isSame_106 (by decide) ?_
                refine lv_goto (tgt := 111) hx hb dX3_isSame_107 (by decide) ?_
                refine lv_istore_n (lv' := [(3, .int 1), (0, .ref (bm 0)), (1, .int (nI a)), (2, .int (nI b)), (4, .int (nI w))]) hx hb dX3_isSame_111 rfl hl (by decide) rfl (fun ls hl => ?_)
                refine lv_iinc (v := (nI (w + 1))) (lv' := [(4, .int (nI (w + 1))), (3, .int 1), (0, .ref (bm 0)), (1, .int (nI a)), (2, .int (nI b))]) hx hb dX3_isSame_112 hl (k := 4) rfl (nI_1 w) (by decide) rfl (fun ls hl => ?_)
                refine lv_goto (tgt := 39) hx hb dX3_isSame_115 (by decide) ?_
                exact ih (w := w + 1) (sm := true) (hl := (lv_sub hl [2, 3, 4, 1, 0] rfl)) (hG := hG) (inv := ⟨by omega, hsn⟩) (hf := by omega)
set_option maxHeartbeats 4000000 in
set_option maxRecDepth 100000 in
/-- joined -/
theorem k_joined (l : Launch) (G : gG) (base : Nat) {L : List Nat} {K n : Nat → Nat} {rI : Nat → Nat → Int32} {rJ : Nat → Nat → Int64} {rQ : Nat → Nat → Option Nat} {fI : Nat → Nat → Int32} {fR : Nat → Nat → Option Nat} {bm : Nat → Nat} {β : bT} (hM : RepM (L, K, n, rI, rJ, rQ, fI, fR) bm β) {o k : Nat} (ho : o < 257) (hk : k < 257) : Met l yX3_joined wsX3_joined ({ frames := 2, cells := 0, slots := 0, locals := 47 }) (va_Pc [.ref (bm 0), .int (nI o), .int (nI k)] (g_Pr G base (L, K, n, rI, rJ, rQ, fI, fR))) (g_Qi G base (fun u : ((Nat → Nat → Int32) × (Nat → Nat → Int64)) × Bool => (L, K, n, u.1.1, u.1.2, rQ, fI, fR)) (fun x u => x = bi u.2 ∧ (u.2 = false ↔ bEq (bJoin (bCopy β k 256) o k) k 256) ∧ StpM (L, K, n, rI, rJ, rQ, fI, fR) bm (L, K, n, u.1.1, u.1.2, rQ, fI, fR) (bJoin (bCopy β k 256) o k))) 0 0 (g_A base) := by
  have hMd : isMd L K n fR bm := hM.1
  have hMd0 := hMd
  obtain ⟨minj, mL0, mK0, ⟨mf2, mf3, mf4, mf5, mf6, mf7, mf8, mf9, mf10, mf11, mf13⟩, ⟨mL2, mK2, mn2⟩, ⟨mL3, mK3, mn3⟩, ⟨mL4, mK4, mn4⟩, ⟨mL5, mK5, mn5⟩, ⟨mL6, mK6, mn6⟩, ⟨mL7, mK7, mn7⟩, ⟨mL8, mK8, mn8⟩, ⟨mL9, mK9, mn9⟩, ⟨mL10, mK10, mn10⟩, ⟨mL11, mK11, mn11⟩, ⟨mL13, mK13, mn13⟩⟩ := hMd0
  have hdl : fI (bm 0) 1 = nI (b_nd β) := hM.2.1.1
  have hnd : b_nd β ≤ 250 := hM.2.1.2
  refine Met.ofW (cc := cX3_joined) (maxL := 3) (ret := (some .int)) (by decide) rfl ?_
  intro p e s m args below meth c s₁ B hml hv
  obtain ⟨rfl, hPr⟩ := hv
  have hx := B.exec
  have hb := B.bytes
  have hr := B.returns
  have hts := atoms_spec (ws := wsX3_joined) B.pre
  have hown : s.vm.findClass RX3 = some m.cls := findClass_of_methodNamed B.named
  have hlocks := B.notSynchronized
  have hin : meth.name = "joined" := (name_of_methodNamed B.named B.method).1
  have hK := hPr.2.2
  have hG := hPr.gw
  have hl := lv_entry ([.ref (bm 0), .int (nI o), .int (nI k)]) (n := 3) (Nat.le_of_ble_eq_true rfl)
  rw [lg_entry_eq]
  generalize (lg_sl ([.ref (bm 0), .int (nI o), .int (nI k)]) ++ List.replicate (3 - (lg_sl ([.ref (bm 0), .int (nI o), .int (nI k)])).length) Slot.unset).toArray = ls at hl ⊢
  have hl : lv_has ls 3 [(0, .ref (bm 0)), (1, .int (nI o)), (2, .int (nI k))] := hl
  refine g_start hPr (fun H locs hG => ?_)
  refine lv_aload_n hx hb dX3_joined_0 rfl (lv_at hl 0 rfl) ?_
  refine lv_iload_n hx hb dX3_joined_1 rfl (lv_at hl 2 rfl) ?_
  refine lv_sipush (v := 256) hx hb dX3_joined_2 (by decide) ?_
  refine g_callv (va_runV (As := [.int (nI k), .int 256]) (rest := []) ⟨hx, hb, hml, hown, hts⟩ (k_copy l G base hM (o := k) (k := 256) hk (by decide)) (cwV 2 hts gX3_joined_X3_copy rfl rfl rfl (by decide +kernel) ⟨(Nat.le_of_ble_eq_true rfl), (Nat.le_of_ble_eq_true rfl)⟩) (g_pv3 hK hG mL0 mK0) rfl rfl hl.1 rfl (lv_room (Nat.le_of_ble_eq_true rfl)) dX3_joined_5 ⟨(Nat.le_of_ble_eq_true rfl), (Nat.le_of_ble_eq_true rfl)⟩) hG (fun u H locs hp hG => ?_)
  obtain ⟨i1, j1⟩ := u
  replace hG : gw G base s.heap (L, K, n, i1, j1, rQ, fI, fR) H locs := hG
  have hP1 : StpM (L, K, n, rI, rJ, rQ, fI, fR) bm (L, K, n, i1, j1, rQ, fI, fR) (bCopy β k 256) := hp
  refine lv_aload_n hx hb dX3_joined_8 rfl (lv_at hl 0 rfl) ?_
  refine lv_iload_n hx hb dX3_joined_9 rfl (lv_at hl 1 rfl) ?_
  refine lv_iload_n hx hb dX3_joined_10 rfl (lv_at hl 2 rfl) ?_
  refine g_callv (va_runV (As := [.int (nI o), .int (nI k)]) (rest := []) ⟨hx, hb, hml, hown, hts⟩ (k_joinTo l G base hP1.1 ho hk) (cwV 2 hts gX3_joined_X3_joinTo rfl rfl rfl (by decide +kernel) ⟨(Nat.le_of_ble_eq_true rfl), (Nat.le_of_ble_eq_true rfl)⟩) (g_pv3 hK hG mL0 mK0) rfl rfl hl.1 rfl (lv_room (Nat.le_of_ble_eq_true rfl)) dX3_joined_11 ⟨(Nat.le_of_ble_eq_true rfl), (Nat.le_of_ble_eq_true rfl)⟩) hG (fun u H locs hp hG => ?_)
  obtain ⟨i2, j2⟩ := u
  replace hG : gw G base s.heap (L, K, n, i2, j2, rQ, fI, fR) H locs := hG
  have hP2 : StpM (L, K, n, rI, rJ, rQ, fI, fR) bm (L, K, n, i2, j2, rQ, fI, fR) (bJoin (bCopy β k 256) o k) := hP1.tr hp
  refine lv_aload_n hx hb dX3_joined_14 rfl (lv_at hl 0 rfl) ?_
  refine lv_iload_n hx hb dX3_joined_15 rfl (lv_at hl 2 rfl) ?_
  refine lv_sipush (v := 256) hx hb dX3_joined_16 (by decide) ?_
  refine g_calli (va_runV (As := [.int (nI k), .int 256]) (rest := []) ⟨hx, hb, hml, hown, hts⟩ (k_isSame l G base hP2.1 (a := k) (b := 256) hk (by decide)) (cwV 2 hts gX3_joined_X3_isSame rfl rfl rfl (by decide +kernel) ⟨(Nat.le_of_ble_eq_true rfl), (Nat.le_of_ble_eq_true rfl)⟩) (g_pv3 hK hG mL0 mK0) rfl rfl hl.1 rfl (lv_room (Nat.le_of_ble_eq_true rfl)) dX3_joined_19 ⟨(Nat.le_of_ble_eq_true rfl), (Nat.le_of_ble_eq_true rfl)⟩) hG (fun y1 sm H locs hp hG => ?_)
  obtain ⟨e1, e2⟩ := hp
  subst e1
  refine lv_if_eq (tgt := 29) hx hb dX3_joined_22 (by decide) (fun c1 => ?_) (fun c1 => ?_)
  · have c1 := bi_0.mp c1
    subst c1
    refine lv_iconst (v := 1) hx hb dX3_joined_29 (by decide) ?_
    refine W.widen (k := 0) (n := 0) (by omega) (by omega) ?_
    exact W.iret (v := 1) hx hb hr (fun t9 h9 hW9 => ⟨⟨1, ((i2, j2), true), rfl, ⟨rfl, ⟨fun z => Bool.noConfusion z, fun z => absurd (e2.mpr z) (by decide)⟩, hP2⟩, hG.at h9⟩, hG.2.2.1.F h9⟩) hG.2.2.1.2.2 dX3_joined_30
  · have c1 := ts_nf (fun z => c1 (bi_0.mpr z))
    subst c1
    refine lv_iconst (v := 0) hx hb dX3_joined_25 (by decide) ?_
    refine lv_goto (tgt := 30) hx hb dX3_joined_26 (by decide) ?_
    refine W.widen (k := 0) (n := 0) (by omega) (by omega) ?_
    exact W.iret (v := 0) hx hb hr (fun t9 h9 hW9 => ⟨⟨0, ((i2, j2), false), rfl, ⟨rfl, ⟨fun _ => e2.mp rfl, fun _ => rfl⟩, hP2⟩, hG.at h9⟩, hG.2.2.1.F h9⟩) hG.2.2.1.2.2 dX3_joined_30
set_option maxHeartbeats 4000000 in
set_option maxRecDepth 100000 in
/-- fresh -/
theorem k_fresh (l : Launch) (G : gG) (base : Nat) {L : List Nat} {K n : Nat → Nat} {rI : Nat → Nat → Int32} {rJ : Nat → Nat → Int64} {rQ : Nat → Nat → Option Nat} {fI : Nat → Nat → Int32} {fR : Nat → Nat → Option Nat} {bm : Nat → Nat} {β : bT} (hM : RepM (L, K, n, rI, rJ, rQ, fI, fR) bm β) (hlt : b_nd β < 250) : Met l yX3_fresh wsX3_fresh ({ frames := 1, cells := 0, slots := 0, locals := 22 }) (va_Pc [.ref (bm 0)] (g_Pr G base (L, K, n, rI, rJ, rQ, fI, fR))) (g_Qi G base (fun u : (Nat → Nat → Int32) × (Nat → Nat → Int64) => (L, K, n, u.1, u.2, rQ, fI, fR)) (fun x u => x = nI (6 + b_nd β) ∧ StpM (L, K, n, rI, rJ, rQ, fI, fR) bm (L, K, n, u.1, u.2, rQ, fI, fR) (bEmp β (6 + b_nd β)))) 0 0 (g_A base) := by
  have hMd : isMd L K n fR bm := hM.1
  have hMd0 := hMd
  obtain ⟨minj, mL0, mK0, ⟨mf2, mf3, mf4, mf5, mf6, mf7, mf8, mf9, mf10, mf11, mf13⟩, ⟨mL2, mK2, mn2⟩, ⟨mL3, mK3, mn3⟩, ⟨mL4, mK4, mn4⟩, ⟨mL5, mK5, mn5⟩, ⟨mL6, mK6, mn6⟩, ⟨mL7, mK7, mn7⟩, ⟨mL8, mK8, mn8⟩, ⟨mL9, mK9, mn9⟩, ⟨mL10, mK10, mn10⟩, ⟨mL11, mK11, mn11⟩, ⟨mL13, mK13, mn13⟩⟩ := hMd0
  have hdl : fI (bm 0) 1 = nI (b_nd β) := hM.2.1.1
  have hnd : b_nd β ≤ 250 := hM.2.1.2
  refine Met.ofW (cc := cX3_fresh) (maxL := 2) (ret := (some .int)) (by decide) rfl ?_
  intro p e s m args below meth c s₁ B hml hv
  obtain ⟨rfl, hPr⟩ := hv
  have hx := B.exec
  have hb := B.bytes
  have hr := B.returns
  have hts := atoms_spec (ws := wsX3_fresh) B.pre
  have hown : s.vm.findClass RX3 = some m.cls := findClass_of_methodNamed B.named
  have hlocks := B.notSynchronized
  have hin : meth.name = "fresh" := (name_of_methodNamed B.named B.method).1
  have hK := hPr.2.2
  have hG := hPr.gw
  have hl := lv_entry ([.ref (bm 0)]) (n := 2) (Nat.le_of_ble_eq_true rfl)
  rw [lg_entry_eq]
  generalize (lg_sl ([.ref (bm 0)]) ++ List.replicate (2 - (lg_sl ([.ref (bm 0)])).length) Slot.unset).toArray = ls at hl ⊢
  have hl : lv_has ls 2 [(0, .ref (bm 0))] := hl
  refine g_start hPr (fun H locs hG => ?_)
  refine lv_bipush (v := 6) hx hb dX3_fresh_0 (by decide) ?_
  refine lv_aload_n hx hb dX3_fresh_2 rfl (lv_at hl 0 rfl) ?_
  refine r_Model_deltas hx hb hts (by decide +kernel) hown hK hG mL0 mK0 (hts (.fieldLink RX3 72 "DotStoresModel" "deltas" "I") (by decide +kernel)) dX3_fresh_3 ?_
  refine lv_topi (fun z1 ez1 => ?_)
  obtain rfl : z1 = nI (b_nd β) := ez1.trans (hdl)
  refine lv_iadd hx hb dX3_fresh_6 ?_
  refine lv_topi (fun z2 ez2 => ?_)
  obtain rfl : z2 = nI (6 + b_nd β) := ez2.trans (nI_add 6 (b_nd β))
  refine lv_istore_n (lv' := [(1, .int (nI (6 + b_nd β))), (0, .ref (bm 0))]) hx hb dX3_fresh_7 rfl hl (by decide) rfl (fun ls hl => ?_)
  refine lv_aload_n hx hb dX3_fresh_8 rfl (lv_at hl 1 rfl) ?_
  refine lv_iload_n hx hb dX3_fresh_9 rfl (lv_at hl 0 rfl) ?_
  refine g_callv (va_runV (As := [.int (nI (6 + b_nd β))]) (rest := []) ⟨hx, hb, hml, hown, hts⟩ (k_empty l G base hM (k := 6 + b_nd β) (by omega)) (cwV 1 hts gX3_fresh_X3_empty rfl rfl rfl (by decide +kernel) ⟨(Nat.le_of_ble_eq_true rfl), (Nat.le_of_ble_eq_true rfl)⟩) (g_pv3 hK hG mL0 mK0) rfl rfl hl.1 rfl (lv_room (Nat.le_of_ble_eq_true rfl)) dX3_fresh_10 ⟨(Nat.le_of_ble_eq_true rfl), (Nat.le_of_ble_eq_true rfl)⟩) hG (fun u H locs hp hG => ?_)
  obtain ⟨i1, j1⟩ := u
  replace hG : gw G base s.heap (L, K, n, i1, j1, rQ, fI, fR) H locs := hG
  have hP1 : StpM (L, K, n, rI, rJ, rQ, fI, fR) bm (L, K, n, i1, j1, rQ, fI, fR) (bEmp β (6 + b_nd β)) := hp
  refine lv_iload_n hx hb dX3_fresh_13 rfl (lv_at hl 0 rfl) ?_
  refine W.widen (k := 0) (n := 0) (by omega) (by omega) ?_
  exact W.iret (v := (nI (6 + b_nd β))) hx hb hr (fun t9 h9 hW9 => ⟨⟨(nI (6 + b_nd β)), (i1, j1), rfl, ⟨rfl, hP1⟩, hG.at h9⟩, hG.2.2.1.F h9⟩) hG.2.2.1.2.2 dX3_fresh_14
set_option maxHeartbeats 4000000 in
set_option maxRecDepth 100000 in
/-- done -/
theorem k_done (l : Launch) (G : gG) (base : Nat) {L : List Nat} {K n : Nat → Nat} {rI : Nat → Nat → Int32} {rJ : Nat → Nat → Int64} {rQ : Nat → Nat → Option Nat} {fI : Nat → Nat → Int32} {fR : Nat → Nat → Option Nat} {bm : Nat → Nat} {β : bT} (hM : RepM (L, K, n, rI, rJ, rQ, fI, fR) bm β) {k q : Nat} (hk : k < 257) (hq : q < 257) (hlt : b_nd β < 250) : Met l yX3_done wsX3_done ({ frames := 2, cells := 0, slots := 0, locals := 47 }) (va_Pc [.ref (bm 0), .int (nI q), .int (nI k)] (g_Pr G base (L, K, n, rI, rJ, rQ, fI, fR))) (g_Qi G base (fun u : (Nat → Nat → Int32) × (Nat → Nat → Int64) × (Nat → Nat → Int32) => (L, K, n, u.1, u.2.1, rQ, u.2.2, fR)) (fun x u => x = nI (b_nd β) ∧ u.2.2 (bm 0) 0 = fI (bm 0) 0 ∧ StpM (L, K, n, rI, rJ, rQ, fI, fR) bm (L, K, n, u.1, u.2.1, rQ, u.2.2, fR) (bND (bJoin β k q) (b_nd β + 1)))) 0 0 (g_A base) := by
  have hMd : isMd L K n fR bm := hM.1
  have hMd0 := hMd
  obtain ⟨minj, mL0, mK0, ⟨mf2, mf3, mf4, mf5, mf6, mf7, mf8, mf9, mf10, mf11, mf13⟩, ⟨mL2, mK2, mn2⟩, ⟨mL3, mK3, mn3⟩, ⟨mL4, mK4, mn4⟩, ⟨mL5, mK5, mn5⟩, ⟨mL6, mK6, mn6⟩, ⟨mL7, mK7, mn7⟩, ⟨mL8, mK8, mn8⟩, ⟨mL9, mK9, mn9⟩, ⟨mL10, mK10, mn10⟩, ⟨mL11, mK11, mn11⟩, ⟨mL13, mK13, mn13⟩⟩ := hMd0
  have hdl : fI (bm 0) 1 = nI (b_nd β) := hM.2.1.1
  have hnd : b_nd β ≤ 250 := hM.2.1.2
  refine Met.ofW (cc := cX3_done) (maxL := 3) (ret := (some .int)) (by decide) rfl ?_
  intro p e s m args below meth c s₁ B hml hv
  obtain ⟨rfl, hPr⟩ := hv
  have hx := B.exec
  have hb := B.bytes
  have hr := B.returns
  have hts := atoms_spec (ws := wsX3_done) B.pre
  have hown : s.vm.findClass RX3 = some m.cls := findClass_of_methodNamed B.named
  have hlocks := B.notSynchronized
  have hin : meth.name = "done" := (name_of_methodNamed B.named B.method).1
  have hK := hPr.2.2
  have hG := hPr.gw
  have hl := lv_entry ([.ref (bm 0), .int (nI q), .int (nI k)]) (n := 3) (Nat.le_of_ble_eq_true rfl)
  rw [lg_entry_eq]
  generalize (lg_sl ([.ref (bm 0), .int (nI q), .int (nI k)]) ++ List.replicate (3 - (lg_sl ([.ref (bm 0), .int (nI q), .int (nI k)])).length) Slot.unset).toArray = ls at hl ⊢
  have hl : lv_has ls 3 [(0, .ref (bm 0)), (1, .int (nI q)), (2, .int (nI k))] := hl
  refine g_start hPr (fun H locs hG => ?_)
  refine lv_aload_n hx hb dX3_done_0 rfl (lv_at hl 0 rfl) ?_
  refine lv_iload_n hx hb dX3_done_1 rfl (lv_at hl 2 rfl) ?_
  refine lv_iload_n hx hb dX3_done_2 rfl (lv_at hl 1 rfl) ?_
  refine g_callv (va_runV (As := [.int (nI k), .int (nI q)]) (rest := []) ⟨hx, hb, hml, hown, hts⟩ (k_joinTo l G base hM (o := k) (k := q) hk hq) (cwV 2 hts gX3_done_X3_joinTo rfl rfl rfl (by decide +kernel) ⟨(Nat.le_of_ble_eq_true rfl), (Nat.le_of_ble_eq_true rfl)⟩) (g_pv3 hK hG mL0 mK0) rfl rfl hl.1 rfl (lv_room (Nat.le_of_ble_eq_true rfl)) dX3_done_3 ⟨(Nat.le_of_ble_eq_true rfl), (Nat.le_of_ble_eq_true rfl)⟩) hG (fun u H locs hp hG => ?_)
  obtain ⟨i1, j1⟩ := u
  replace hG : gw G base s.heap (L, K, n, i1, j1, rQ, fI, fR) H locs := hG
  have hP1 : StpM (L, K, n, rI, rJ, rQ, fI, fR) bm (L, K, n, i1, j1, rQ, fI, fR) (bJoin β k q) := hp
  refine lv_aload_n hx hb dX3_done_6 rfl (lv_at hl 0 rfl) ?_
  refine lv_dup hx hb dX3_done_7 rfl ?_
  refine r_Model_deltas hx hb hts (by decide +kernel) hown hK hG mL0 mK0 (hts (.fieldLink RX3 72 "DotStoresModel" "deltas" "I") (by decide +kernel)) dX3_done_8 ?_
  refine lv_topi (fun z1 ez1 => ?_)
  obtain rfl : z1 = nI (b_nd β) := ez1.trans (hdl)
  refine lv_iconst (v := 1) hx hb dX3_done_11 (by decide) ?_
  refine lv_iadd hx hb dX3_done_12 ?_
  refine lv_topi (fun z2 ez2 => ?_)
  obtain rfl : z2 = nI (b_nd β + 1) := ez2.trans (nI_1 (b_nd β))
  refine w_Model_deltas hx hb hts (by decide +kernel) hown hK hG mL0 mK0 (hts (.fieldLink RX3 72 "DotStoresModel" "deltas" "I") (by decide +kernel)) dX3_done_13 (fun H locs hG => ?_)
  refine lv_aload_n hx hb dX3_done_16 rfl (lv_at hl 0 rfl) ?_
  refine r_Model_deltas hx hb hts (by decide +kernel) hown hK hG mL0 mK0 (hts (.fieldLink RX3 72 "DotStoresModel" "deltas" "I") (by decide +kernel)) dX3_done_17 ?_
  refine lv_topi (fun z3 ez3 => ?_)
  obtain rfl : z3 = nI (b_nd β + 1) := ez3.trans (g_up_at _ _ _ _)
  refine lv_iconst (v := 1) hx hb dX3_done_20 (by decide) ?_
  refine lv_isub hx hb dX3_done_21 ?_
  refine lv_topi (fun z4 ez4 => ?_)
  obtain rfl : z4 = nI (b_nd β) := ez4.trans (nI_pred (b_nd β))
  refine W.widen (k := 0) (n := 0) (by omega) (by omega) ?_
  exact W.iret (v := (nI (b_nd β))) hx hb hr (fun t9 h9 hW9 => ⟨⟨(nI (b_nd β)), (i1, j1, g_up fI (bm 0) 1 (nI (b_nd β + 1))), rfl, ⟨rfl, g_up_i _ _ _ _ (by decide), hP1.tr (repM_F hP1.1 (g_up_at _ _ _ _) (by omega) (fun b hb => g_up_other _ _ _ hb))⟩, hG.at h9⟩, hG.2.2.1.F h9⟩) hG.2.2.1.2.2 dX3_done_22
set_option maxHeartbeats 4000000 in
set_option maxRecDepth 100000 in
/-- hasRoom -/
theorem k_hasRoom (l : Launch) (G : gG) (base : Nat) {L : List Nat} {K n : Nat → Nat} {rI : Nat → Nat → Int32} {rJ : Nat → Nat → Int64} {rQ : Nat → Nat → Option Nat} {fI : Nat → Nat → Int32} {fR : Nat → Nat → Option Nat} {bm : Nat → Nat} {β : bT} (hM : RepM (L, K, n, rI, rJ, rQ, fI, fR) bm β) {q : Nat} {on : Bool} (hq : q < 6) : Met l yX3_hasRoom wsX3_hasRoom ({ frames := 2, cells := 0, slots := 0, locals := 46 }) (va_Pc [.ref (bm 0), .int (nI q), .int (bi on)] (g_Pr G base (L, K, n, rI, rJ, rQ, fI, fR))) (g_Qi G base (fun _ : Bool => (L, K, n, rI, rJ, rQ, fI, fR)) (fun x u => x = bi u ∧ (u = true ↔ (b_nd β < 250 ∧ (on = true → grN (fun i => b_S β q (128 * q + i)) 100 < 100))))) 0 0 (g_A base) := by
  have hMd : isMd L K n fR bm := hM.1
  have hMd0 := hMd
  obtain ⟨minj, mL0, mK0, ⟨mf2, mf3, mf4, mf5, mf6, mf7, mf8, mf9, mf10, mf11, mf13⟩, ⟨mL2, mK2, mn2⟩, ⟨mL3, mK3, mn3⟩, ⟨mL4, mK4, mn4⟩, ⟨mL5, mK5, mn5⟩, ⟨mL6, mK6, mn6⟩, ⟨mL7, mK7, mn7⟩, ⟨mL8, mK8, mn8⟩, ⟨mL9, mK9, mn9⟩, ⟨mL10, mK10, mn10⟩, ⟨mL11, mK11, mn11⟩, ⟨mL13, mK13, mn13⟩⟩ := hMd0
  have hdl : fI (bm 0) 1 = nI (b_nd β) := hM.2.1.1
  have hnd : b_nd β ≤ 250 := hM.2.1.2
  refine Met.ofW (cc := cX3_hasRoom) (maxL := 3) (ret := (some .boolean)) (by decide) rfl ?_
  intro p e s m args below meth c s₁ B hml hv
  obtain ⟨rfl, hPr⟩ := hv
  have hx := B.exec
  have hb := B.bytes
  have hr := B.returns
  have hts := atoms_spec (ws := wsX3_hasRoom) B.pre
  have hown : s.vm.findClass RX3 = some m.cls := findClass_of_methodNamed B.named
  have hlocks := B.notSynchronized
  have hin : meth.name = "hasRoom" := (name_of_methodNamed B.named B.method).1
  have hK := hPr.2.2
  have hG := hPr.gw
  have hl := lv_entry ([.ref (bm 0), .int (nI q), .int (bi on)]) (n := 3) (Nat.le_of_ble_eq_true rfl)
  rw [lg_entry_eq]
  generalize (lg_sl ([.ref (bm 0), .int (nI q), .int (bi on)]) ++ List.replicate (3 - (lg_sl ([.ref (bm 0), .int (nI q), .int (bi on)])).length) Slot.unset).toArray = ls at hl ⊢
  have hl : lv_has ls 3 [(0, .ref (bm 0)), (1, .int (nI q)), (2, .int (bi on))] := hl
  refine g_start hPr (fun H locs hG => ?_)
  refine lv_aload_n hx hb dX3_hasRoom_0 rfl (lv_at hl 0 rfl) ?_
  refine r_Model_deltas hx hb hts (by decide +kernel) hown hK hG mL0 mK0 (hts (.fieldLink RX3 72 "DotStoresModel" "deltas" "I") (by decide +kernel)) dX3_hasRoom_1 ?_
  refine lv_topi (fun z1 ez1 => ?_)
  obtain rfl : z1 = nI (b_nd β) := ez1.trans (hdl)
  refine lv_sipush (v := 250) hx hb dX3_hasRoom_4 (by decide) ?_
  refine lv_icmp_ge (tgt := 29) hx hb dX3_hasRoom_7 (by decide) (fun c1 => ?_) (fun c1 => ?_)
  · have hno : ¬ (b_nd β < 250 ∧ (on = true → grN (fun i => b_S β q (128 * q + i)) 100 < 100)) := fun z => absurd c1 (nI_ge z.1 (by decide))
    refine lv_iconst (v := 0) hx hb dX3_hasRoom_29 (by decide) ?_
    refine W.widen (k := 0) (n := 0) (by omega) (by omega) ?_
    exact W.zret (v := 0) hx hb hr rfl (fun t9 h9 hW9 => ⟨⟨0, false, rfl, ⟨rfl, fun z => Bool.noConfusion z, fun z => absurd z hno⟩, hG.at h9⟩, hG.2.2.1.F h9⟩) hG.2.2.1.2.2 dX3_hasRoom_30
  · have c1 : b_nd β < 250 := nI_lt_of (by omega) c1
    refine lv_iload_n hx hb dX3_hasRoom_10 rfl (lv_at hl 2 rfl) ?_
    refine lv_if_eq (tgt := 25) hx hb dX3_hasRoom_11 (by decide) (fun c2 => ?_) (fun c2 => ?_)
    · have c2 := bi_0.mp c2
      have hok : b_nd β < 250 ∧ (on = true → grN (fun i => b_S β q (128 * q + i)) 100 < 100) := ⟨c1, fun z => absurd (c2.symm.trans z) (by decide)⟩
      refine lv_iconst (v := 1) hx hb dX3_hasRoom_25 (by decide) ?_
      refine lv_goto (tgt := 30) hx hb dX3_hasRoom_26 (by decide) ?_
      refine W.widen (k := 0) (n := 0) (by omega) (by omega) ?_
      exact W.zret (v := 1) hx hb hr rfl (fun t9 h9 hW9 => ⟨⟨1, true, rfl, ⟨rfl, fun _ => hok, fun _ => rfl⟩, hG.at h9⟩, hG.2.2.1.F h9⟩) hG.2.2.1.2.2 dX3_hasRoom_30
    · have c2 := ts_nf (fun z => c2 (bi_0.mpr z))
      refine lv_aload_n hx hb dX3_hasRoom_14 rfl (lv_at hl 0 rfl) ?_
      refine lv_iload_n hx hb dX3_hasRoom_15 rfl (lv_at hl 1 rfl) ?_
      refine lv_iload_n hx hb dX3_hasRoom_16 rfl (lv_at hl 1 rfl) ?_
      refine g_calli (va_runV (As := [.int (nI q), .int (nI q)]) (rest := []) ⟨hx, hb, hml, hown, hts⟩ (k_greatest l G base hM (k := q) (q := q) (by omega) hq) (cwV 2 hts gX3_hasRoom_X3_greatest rfl rfl rfl (by decide +kernel) ⟨(Nat.le_of_ble_eq_true rfl), (Nat.le_of_ble_eq_true rfl)⟩) (g_pv3 hK hG mL0 mK0) rfl rfl hl.1 rfl (lv_room (Nat.le_of_ble_eq_true rfl)) dX3_hasRoom_17 ⟨(Nat.le_of_ble_eq_true rfl), (Nat.le_of_ble_eq_true rfl)⟩) hG (fun y1 _ H locs hp hG => ?_)
      subst hp
      refine lv_bipush (v := 100) hx hb dX3_hasRoom_20 (by decide) ?_
      refine lv_icmp_ge (tgt := 29) hx hb dX3_hasRoom_22 (by decide) (fun c3 => ?_) (fun c3 => ?_)
      · have hno : ¬ (b_nd β < 250 ∧ (on = true → grN (fun i => b_S β q (128 * q + i)) 100 < 100)) := fun z => absurd c3 (nI_ge (z.2 c2) (by decide))
        refine lv_iconst (v := 0) hx hb dX3_hasRoom_29 (by decide) ?_
        refine W.widen (k := 0) (n := 0) (by omega) (by omega) ?_
        exact W.zret (v := 0) hx hb hr rfl (fun t9 h9 hW9 => ⟨⟨0, false, rfl, ⟨rfl, fun z => Bool.noConfusion z, fun z => absurd z hno⟩, hG.at h9⟩, hG.2.2.1.F h9⟩) hG.2.2.1.2.2 dX3_hasRoom_30
      · have hok : b_nd β < 250 ∧ (on = true → grN (fun i => b_S β q (128 * q + i)) 100 < 100) := ⟨c1, fun _ => nI_lt_of (by have := grN_le (fun i => b_S β q (128 * q + i)) 100; omega) c3⟩
        refine lv_iconst (v := 1) hx hb dX3_hasRoom_25 (by decide) ?_
        refine lv_goto (tgt := 30) hx hb dX3_hasRoom_26 (by decide) ?_
        refine W.widen (k := 0) (n := 0) (by omega) (by omega) ?_
        exact W.zret (v := 1) hx hb hr rfl (fun t9 h9 hW9 => ⟨⟨1, true, rfl, ⟨rfl, fun _ => hok, fun _ => rfl⟩, hG.at h9⟩, hG.2.2.1.F h9⟩) hG.2.2.1.2.2 dX3_hasRoom_30
/-- what a change refuses: 1 an index, 2 the kind, 3 no room -/
def refI (β : bT) (v key : Int32) (pi : Bool) (kd : Int32) (on : Bool) (c : Nat) : Prop :=
  (c = 1 ∧ ¬ (okI v 6 ∧ okI key 16 ∧ pi = true)) ∨ (c = 2 ∧ (okI v 6 ∧ okI key 16 ∧ pi = true) ∧ ¬ key - key / 4 * 4 = kd) ∨
  (∃ q, q < 6 ∧ v = nI q ∧ okI key 16 ∧ pi = true ∧ key - key / 4 * 4 = kd ∧ ((c = 0 ∧ (b_nd β < 250 ∧ (on = true → grN (fun i => b_S β q (128 * q + i)) 100 < 100))) ∨ (c = 3 ∧ ¬ (b_nd β < 250 ∧ (on = true → grN (fun i => b_S β q (128 * q + i)) 100 < 100)))))
set_option maxHeartbeats 4000000 in
set_option maxRecDepth 100000 in
/-- refusal -/
theorem k_refusal (l : Launch) (G : gG) (base : Nat) {L : List Nat} {K n : Nat → Nat} {rI : Nat → Nat → Int32} {rJ : Nat → Nat → Int64} {rQ : Nat → Nat → Option Nat} {fI : Nat → Nat → Int32} {fR : Nat → Nat → Option Nat} {bm : Nat → Nat} {β : bT} (hM : RepM (L, K, n, rI, rJ, rQ, fI, fR) bm β) {v key kd : Int32} {pi on : Bool} : Met l yX3_refusal wsX3_refusal ({ frames := 3, cells := 0, slots := 0, locals := 68 }) (va_Pc [.ref (bm 0), .int v, .int key, .int (bi pi), .int kd, .int (bi on)] (g_Pr G base (L, K, n, rI, rJ, rQ, fI, fR))) (g_Qi G base (fun _ : Nat => (L, K, n, rI, rJ, rQ, fI, fR)) (fun x u => x = nI u ∧ refI β v key pi kd on u)) 0 0 (g_A base) := by
  have hMd : isMd L K n fR bm := hM.1
  have hMd0 := hMd
  obtain ⟨minj, mL0, mK0, ⟨mf2, mf3, mf4, mf5, mf6, mf7, mf8, mf9, mf10, mf11, mf13⟩, ⟨mL2, mK2, mn2⟩, ⟨mL3, mK3, mn3⟩, ⟨mL4, mK4, mn4⟩, ⟨mL5, mK5, mn5⟩, ⟨mL6, mK6, mn6⟩, ⟨mL7, mK7, mn7⟩, ⟨mL8, mK8, mn8⟩, ⟨mL9, mK9, mn9⟩, ⟨mL10, mK10, mn10⟩, ⟨mL11, mK11, mn11⟩, ⟨mL13, mK13, mn13⟩⟩ := hMd0
  have hdl : fI (bm 0) 1 = nI (b_nd β) := hM.2.1.1
  have hnd : b_nd β ≤ 250 := hM.2.1.2
  refine Met.ofW (cc := cX3_refusal) (maxL := 6) (ret := (some .int)) (by decide) rfl ?_
  intro p e s m args below meth c s₁ B hml hv
  obtain ⟨rfl, hPr⟩ := hv
  have hx := B.exec
  have hb := B.bytes
  have hr := B.returns
  have hts := atoms_spec (ws := wsX3_refusal) B.pre
  have hown : s.vm.findClass RX3 = some m.cls := findClass_of_methodNamed B.named
  have hlocks := B.notSynchronized
  have hin : meth.name = "refusal" := (name_of_methodNamed B.named B.method).1
  have hK := hPr.2.2
  have hG := hPr.gw
  have hl := lv_entry ([.ref (bm 0), .int v, .int key, .int (bi pi), .int kd, .int (bi on)]) (n := 6) (Nat.le_of_ble_eq_true rfl)
  rw [lg_entry_eq]
  generalize (lg_sl ([.ref (bm 0), .int v, .int key, .int (bi pi), .int kd, .int (bi on)]) ++ List.replicate (6 - (lg_sl ([.ref (bm 0), .int v, .int key, .int (bi pi), .int kd, .int (bi on)])).length) Slot.unset).toArray = ls at hl ⊢
  have hl : lv_has ls 6 [(0, .ref (bm 0)), (1, .int v), (2, .int key), (3, .int (bi pi)), (4, .int kd), (5, .int (bi on))] := hl
  refine g_start hPr (fun H locs hG => ?_)
  refine lv_aload_n hx hb dX3_refusal_0 rfl (lv_at hl 0 rfl) ?_
  refine lv_iload_n hx hb dX3_refusal_1 rfl (lv_at hl 1 rfl) ?_
  refine g_calli (va_runV (As := [.int v]) (rest := []) ⟨hx, hb, hml, hown, hts⟩ (k_isReplica l G base (v := v) (a := bm 0)) (cwV 1 hts gX3_refusal_X3_isReplica rfl rfl rfl (by decide +kernel) ⟨(Nat.le_of_ble_eq_true rfl), (Nat.le_of_ble_eq_true rfl)⟩) (g_pv3 hK hG mL0 mK0) rfl rfl hl.1 rfl (lv_room (Nat.le_of_ble_eq_true rfl)) dX3_refusal_2 ⟨(Nat.le_of_ble_eq_true rfl), (Nat.le_of_ble_eq_true rfl)⟩) hG (fun y1 b1 H locs hp hG => ?_)
  obtain ⟨e1, h1⟩ := hp
  subst e1
  refine lv_if_eq (tgt := 19) hx hb dX3_refusal_5 (by decide) (fun c1 => ?_) (fun c1 => ?_)
  · have hno : ¬ (okI v 6 ∧ okI key 16 ∧ pi = true) := fun z => absurd ((bi_0.mp c1).symm.trans (h1.mpr z.1)) (by decide)
    refine lv_iconst (v := 1) hx hb dX3_refusal_19 (by decide) ?_
    refine W.widen (k := 0) (n := 0) (by omega) (by omega) ?_
    exact W.iret (v := 1) hx hb hr (fun t9 h9 hW9 => ⟨⟨1, 1, rfl, ⟨rfl, Or.inl ⟨rfl, hno⟩⟩, hG.at h9⟩, hG.2.2.1.F h9⟩) hG.2.2.1.2.2 dX3_refusal_20
  · obtain ⟨q, hq, rfl⟩ := h1.mp (ts_nf (fun z => c1 (bi_0.mpr z)))
    refine lv_iload_n hx hb dX3_refusal_8 rfl (lv_at hl 2 rfl) ?_
    refine g_calli (va_runS (As := [.int key]) (rest := []) ⟨hx, hb, hml, hown, hts⟩ (k_isKey l G base (v := key)) (cwS 1 hts gX3_refusal_X3_isKey rfl rfl rfl (by decide +kernel) ⟨(Nat.le_of_ble_eq_true rfl), (Nat.le_of_ble_eq_true rfl)⟩) (g_ps hK hG) rfl rfl hl.1 rfl (lv_room (Nat.le_of_ble_eq_true rfl)) dX3_refusal_9 ⟨(Nat.le_of_ble_eq_true rfl), (Nat.le_of_ble_eq_true rfl)⟩) hG (fun y2 b2 H locs hp hG => ?_)
    obtain ⟨e2, h2⟩ := hp
    subst e2
    refine lv_if_eq (tgt := 19) hx hb dX3_refusal_12 (by decide) (fun c2 => ?_) (fun c2 => ?_)
    · have hno : ¬ (okI (nI q) 6 ∧ okI key 16 ∧ pi = true) := fun z => absurd ((bi_0.mp c2).symm.trans (h2.mpr z.2.1)) (by decide)
      refine lv_iconst (v := 1) hx hb dX3_refusal_19 (by decide) ?_
      refine W.widen (k := 0) (n := 0) (by omega) (by omega) ?_
      exact W.iret (v := 1) hx hb hr (fun t9 h9 hW9 => ⟨⟨1, 1, rfl, ⟨rfl, Or.inl ⟨rfl, hno⟩⟩, hG.at h9⟩, hG.2.2.1.F h9⟩) hG.2.2.1.2.2 dX3_refusal_20
    · have hkey := h2.mp (ts_nf (fun z => c2 (bi_0.mpr z)))
      refine lv_iload_n hx hb dX3_refusal_15 rfl (lv_at hl 3 rfl) ?_
      refine lv_if_ne (tgt := 21) hx hb dX3_refusal_16 (by decide) (fun c3 => ?_) (fun c3 => ?_)
      · have hpi := ts_nf (fun z => c3 (bi_0.mpr z))
        refine lv_iload_n hx hb dX3_refusal_21 rfl (lv_at hl 2 rfl) ?_
        refine lv_iconst (v := 4) hx hb dX3_refusal_22 (by decide) ?_
        refine lv_irem hx hb dX3_refusal_23 (by decide) ?_
        refine lv_iload hx hb dX3_refusal_24 (lv_at hl 4 rfl) ?_
        refine lv_icmp_eq (tgt := 33) hx hb dX3_refusal_26 (by decide) (fun c4 => ?_) (fun c4 => ?_)
        · refine lv_aload_n hx hb dX3_refusal_33 rfl (lv_at hl 0 rfl) ?_
          refine lv_iload_n hx hb dX3_refusal_34 rfl (lv_at hl 1 rfl) ?_
          refine lv_iload hx hb dX3_refusal_35 (lv_at hl 5 rfl) ?_
          refine g_calli (va_runV (As := [.int (nI q), .int (bi on)]) (rest := []) ⟨hx, hb, hml, hown, hts⟩ (k_hasRoom l G base hM (q := q) (on := on) hq) (cwV 2 hts gX3_refusal_X3_hasRoom rfl rfl rfl (by decide +kernel) ⟨(Nat.le_of_ble_eq_true rfl), (Nat.le_of_ble_eq_true rfl)⟩) (g_pv3 hK hG mL0 mK0) rfl rfl hl.1 rfl (lv_room (Nat.le_of_ble_eq_true rfl)) dX3_refusal_37 ⟨(Nat.le_of_ble_eq_true rfl), (Nat.le_of_ble_eq_true rfl)⟩) hG (fun y3 b3 H locs hp hG => ?_)
          obtain ⟨e3, h3⟩ := hp
          subst e3
          refine lv_if_eq (tgt := 47) hx hb dX3_refusal_40 (by decide) (fun c5 => ?_) (fun c5 => ?_)
          · have hn3 : ¬ (b_nd β < 250 ∧ (on = true → grN (fun i => b_S β q (128 * q + i)) 100 < 100)) := fun z => absurd ((bi_0.mp c5).symm.trans (h3.mpr z)) (by decide)
            refine lv_iconst (v := 3) hx hb dX3_refusal_47 (by decide) ?_
            refine W.widen (k := 0) (n := 0) (by omega) (by omega) ?_
            exact W.iret (v := 3) hx hb hr (fun t9 h9 hW9 => ⟨⟨3, 3, rfl, ⟨rfl, Or.inr (Or.inr ⟨q, hq, rfl, hkey, hpi, c4, Or.inr ⟨rfl, hn3⟩⟩)⟩, hG.at h9⟩, hG.2.2.1.F h9⟩) hG.2.2.1.2.2 dX3_refusal_48
          · have hy3 := h3.mp (ts_nf (fun z => c5 (bi_0.mpr z)))
            refine lv_iconst (v := 0) hx hb dX3_refusal_43 (by decide) ?_
            refine lv_goto (tgt := 48) hx hb dX3_refusal_44 (by decide) ?_
            refine W.widen (k := 0) (n := 0) (by omega) (by omega) ?_
            exact W.iret (v := 0) hx hb hr (fun t9 h9 hW9 => ⟨⟨0, 0, rfl, ⟨rfl, Or.inr (Or.inr ⟨q, hq, rfl, hkey, hpi, c4, Or.inl ⟨rfl, hy3⟩⟩)⟩, hG.at h9⟩, hG.2.2.1.F h9⟩) hG.2.2.1.2.2 dX3_refusal_48
        · have c4 : ¬ key - key / 4 * 4 = kd := c4
          refine lv_iconst (v := 2) hx hb dX3_refusal_29 (by decide) ?_
          refine lv_goto (tgt := 48) hx hb dX3_refusal_30 (by decide) ?_
          refine W.widen (k := 0) (n := 0) (by omega) (by omega) ?_
          exact W.iret (v := 2) hx hb hr (fun t9 h9 hW9 => ⟨⟨2, 2, rfl, ⟨rfl, Or.inr (Or.inl ⟨rfl, ⟨⟨q, hq, rfl⟩, hkey, hpi⟩, c4⟩)⟩, hG.at h9⟩, hG.2.2.1.F h9⟩) hG.2.2.1.2.2 dX3_refusal_48
      · have hno : ¬ (okI (nI q) 6 ∧ okI key 16 ∧ pi = true) := fun z => absurd ((bi_0.mp (by first | exact c3 | exact Classical.not_not.mp c3)).symm.trans z.2.2) (by decide)
        refine lv_iconst (v := 1) hx hb dX3_refusal_19 (by decide) ?_
        refine W.widen (k := 0) (n := 0) (by omega) (by omega) ?_
        exact W.iret (v := 1) hx hb hr (fun t9 h9 hW9 => ⟨⟨1, 1, rfl, ⟨rfl, Or.inl ⟨rfl, hno⟩⟩, hG.at h9⟩, hG.2.2.1.F h9⟩) hG.2.2.1.2.2 dX3_refusal_20
