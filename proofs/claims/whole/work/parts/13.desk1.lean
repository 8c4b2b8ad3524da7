set_option maxHeartbeats 4000000 in
set_option maxRecDepth 100000 in
/-- requireIndex(i, b) -/
theorem c_requireIndex (l : Launch) (G : gG) (base : Nat) {L : List Nat} {K n : Nat → Nat} {rI : Nat → Nat → Int32} {rJ : Nat → Nat → Int64} {rQ : Nat → Nat → Option Nat} {fI : Nat → Nat → Int32} {fR : Nat → Nat → Option Nat} (hl0 : l.stackTraces = false) {i b : Int32} : vx_Met l yX2_requireIndex wsX2_requireIndex ({ frames := 6, cells := 1, slots := 6, locals := 90 }) (va_Pc [.int i, .int b] (g_Px G base (L, K, n, rI, rJ, rQ, fI, fR))) (g_Qv G base (fun _ : Unit => (L, K, n, rI, rJ, rQ, fI, fR)) (fun _ => ¬ i < 0 ∧ i < b)) (g_XC G base (L, K, n, rI, rJ, rQ, fI, fR) (fun E => E = "java/lang/IndexOutOfBoundsException" ∧ (i < 0 ∨ ¬ i < b))) 1 6 (g_A base) := by
  refine vx_ofW (cc := cX2_requireIndex) (maxL := 2) (ret := none) (by decide) rfl ?_
  intro p e s m args below meth c s₁ B hml hnt hv
  obtain ⟨rfl, hPr, hX⟩ := hv
  have hx := B.exec
  have hb := B.bytes
  have hr := B.returns
  have hts := atoms_spec (ws := wsX2_requireIndex) B.pre
  have hown : s.vm.findClass RX2 = some m.cls := findClass_of_methodNamed B.named
  have hlocks := B.notSynchronized
  have hin : meth.name = "requireIndex" := (name_of_methodNamed B.named B.method).1
  have hK := hPr.2.2
  have hG := hPr.gw
  have hl := lv_entry ([.int i, .int b]) (n := 2) (Nat.le_of_ble_eq_true rfl)
  rw [lg_entry_eq]
  generalize (lg_sl ([.int i, .int b]) ++ List.replicate (2 - (lg_sl ([.int i, .int b])).length) Slot.unset).toArray = ls at hl ⊢
  have hl : lv_has ls 2 [(0, .int i), (1, .int b)] := hl
  refine g_start hPr (fun H locs hG => ?_)
  refine lv_iload_n hx hb dX2_requireIndex_0 rfl (lv_at hl 0 rfl) ?_
  refine lv_if_lt (tgt := 9) hx hb dX2_requireIndex_1 (by decide) (fun c0 => ?_) (fun c0 => ?_)
  · have hp : i < 0 ∨ ¬ i < b := Or.inl c0
    exact g_throw (cls := "java/lang/IndexOutOfBoundsException") (ik := 161) (is := 170) (ic := 165) hx hb hl0 hown (by decide +kernel) (hts (.classLink RX2 161 "java/lang/IndexOutOfBoundsException") (by decide +kernel)) (hts (.initialized "java/lang/IndexOutOfBoundsException") (by decide +kernel)) hX.2.2.2.2.1 (fun w hw => hts w (List.mem_cons_of_mem _ (List.mem_append_right _ hw))) (fun w h => List.mem_append_left _ (List.mem_append_left _ (List.mem_append_left _ (List.mem_append_left _ h)))) (by decide +kernel) hX hG (hl.1.trans hml.symm) dX2_requireIndex_9 dX2_requireIndex_12 dX2_requireIndex_13 dX2_requireIndex_15 dX2_requireIndex_18 hnt (Nat.le_of_ble_eq_true rfl) (Nat.le_of_ble_eq_true rfl) (Nat.le_of_ble_eq_true rfl) (Nat.le_of_ble_eq_true rfl) hlocks ⟨rfl, hp⟩ (Nat.le_of_ble_eq_true rfl) (Nat.le_of_ble_eq_true rfl)
  · refine lv_iload_n hx hb dX2_requireIndex_4 rfl (lv_at hl 0 rfl) ?_
    refine lv_iload_n hx hb dX2_requireIndex_5 rfl (lv_at hl 1 rfl) ?_
    refine lv_icmp_lt (tgt := 19) hx hb dX2_requireIndex_6 (by decide) (fun c1 => ?_) (fun c1 => ?_)
    · refine vx_ret ?_
      refine W.widen (k := 1) (n := 6) (by omega) (by omega) ?_
      exact W.vret hx hb hr (fun t ht hW => ⟨⟨(), rfl, ⟨c0, c1⟩, hG.at ht⟩, hG.2.2.1.F ht⟩) hG.2.2.1.2.2 dX2_requireIndex_19
    · have hp : i < 0 ∨ ¬ i < b := Or.inr c1
      exact g_throw (cls := "java/lang/IndexOutOfBoundsException") (ik := 161) (is := 170) (ic := 165) hx hb hl0 hown (by decide +kernel) (hts (.classLink RX2 161 "java/lang/IndexOutOfBoundsException") (by decide +kernel)) (hts (.initialized "java/lang/IndexOutOfBoundsException") (by decide +kernel)) hX.2.2.2.2.1 (fun w hw => hts w (List.mem_cons_of_mem _ (List.mem_append_right _ hw))) (fun w h => List.mem_append_left _ (List.mem_append_left _ (List.mem_append_left _ (List.mem_append_left _ h)))) (by decide +kernel) hX hG (hl.1.trans hml.symm) dX2_requireIndex_9 dX2_requireIndex_12 dX2_requireIndex_13 dX2_requireIndex_15 dX2_requireIndex_18 hnt (Nat.le_of_ble_eq_true rfl) (Nat.le_of_ble_eq_true rfl) (Nat.le_of_ble_eq_true rfl) (Nat.le_of_ble_eq_true rfl) hlocks ⟨rfl, hp⟩ (Nat.le_of_ble_eq_true rfl) (Nat.le_of_ble_eq_true rfl)
set_option maxHeartbeats 4000000 in
set_option maxRecDepth 100000 in
/-- requireKind(i, b) -/
theorem c_requireKind (l : Launch) (G : gG) (base : Nat) {L : List Nat} {K n : Nat → Nat} {rI : Nat → Nat → Int32} {rJ : Nat → Nat → Int64} {rQ : Nat → Nat → Option Nat} {fI : Nat → Nat → Int32} {fR : Nat → Nat → Option Nat} (hl0 : l.stackTraces = false) {i b : Int32} : vx_Met l yX2_requireKind wsX2_requireKind ({ frames := 6, cells := 1, slots := 6, locals := 90 }) (va_Pc [.int i, .int b] (g_Px G base (L, K, n, rI, rJ, rQ, fI, fR))) (g_Qv G base (fun _ : Unit => (L, K, n, rI, rJ, rQ, fI, fR)) (fun _ => i - i / 4 * 4 = b)) (g_XC G base (L, K, n, rI, rJ, rQ, fI, fR) (fun E => E = "java/lang/UnsupportedOperationException" ∧ ¬ i - i / 4 * 4 = b)) 1 6 (g_A base) := by
  refine vx_ofW (cc := cX2_requireKind) (maxL := 2) (ret := none) (by decide) rfl ?_
  intro p e s m args below meth c s₁ B hml hnt hv
  obtain ⟨rfl, hPr, hX⟩ := hv
  have hx := B.exec
  have hb := B.bytes
  have hr := B.returns
  have hts := atoms_spec (ws := wsX2_requireKind) B.pre
  have hown : s.vm.findClass RX2 = some m.cls := findClass_of_methodNamed B.named
  have hlocks := B.notSynchronized
  have hin : meth.name = "requireKind" := (name_of_methodNamed B.named B.method).1
  have hK := hPr.2.2
  have hG := hPr.gw
  have hl := lv_entry ([.int i, .int b]) (n := 2) (Nat.le_of_ble_eq_true rfl)
  rw [lg_entry_eq]
  generalize (lg_sl ([.int i, .int b]) ++ List.replicate (2 - (lg_sl ([.int i, .int b])).length) Slot.unset).toArray = ls at hl ⊢
  have hl : lv_has ls 2 [(0, .int i), (1, .int b)] := hl
  refine g_start hPr (fun H locs hG => ?_)
  refine lv_iload_n hx hb dX2_requireKind_0 rfl (lv_at hl 0 rfl) ?_
  refine lv_iconst (v := 4) hx hb dX2_requireKind_1 (by decide) ?_
  refine lv_irem hx hb dX2_requireKind_2 (by decide) ?_
  refine lv_iload_n hx hb dX2_requireKind_3 rfl (lv_at hl 1 rfl) ?_
  refine lv_icmp_eq (tgt := 17) hx hb dX2_requireKind_4 (by decide) (fun c1 => ?_) (fun c1 => ?_)
  · refine vx_ret ?_
    refine W.widen (k := 1) (n := 6) (by omega) (by omega) ?_
    exact W.vret hx hb hr (fun t ht hW => ⟨⟨(), rfl, c1, hG.at ht⟩, hG.2.2.1.F ht⟩) hG.2.2.1.2.2 dX2_requireKind_17
  · exact g_throw (cls := "java/lang/UnsupportedOperationException") (ik := 172) (is := 174) (ic := 176) hx hb hl0 hown (by decide +kernel) (hts (.classLink RX2 172 "java/lang/UnsupportedOperationException") (by decide +kernel)) (hts (.initialized "java/lang/UnsupportedOperationException") (by decide +kernel)) hX.2.2.2.2.2.1 (fun w hw => hts w (List.mem_cons_of_mem _ (List.mem_append_right _ hw))) (fun w h => List.mem_append_left _ (List.mem_append_left _ (List.mem_append_left _ (List.mem_append_right _ h)))) (by decide +kernel) hX hG (hl.1.trans hml.symm) dX2_requireKind_7 dX2_requireKind_10 dX2_requireKind_11 dX2_requireKind_13 dX2_requireKind_16 hnt (Nat.le_of_ble_eq_true rfl) (Nat.le_of_ble_eq_true rfl) (Nat.le_of_ble_eq_true rfl) (Nat.le_of_ble_eq_true rfl) hlocks ⟨rfl, c1⟩ (Nat.le_of_ble_eq_true rfl) (Nat.le_of_ble_eq_true rfl)
set_option maxHeartbeats 4000000 in
set_option maxRecDepth 100000 in
/-- requireTime(i) -/
theorem c_requireTime (l : Launch) (G : gG) (base : Nat) {L : List Nat} {K n : Nat → Nat} {rI : Nat → Nat → Int32} {rJ : Nat → Nat → Int64} {rQ : Nat → Nat → Option Nat} {fI : Nat → Nat → Int32} {fR : Nat → Nat → Option Nat} (hl0 : l.stackTraces = false) {i : Int32} : vx_Met l yX2_requireTime wsX2_requireTime ({ frames := 6, cells := 1, slots := 6, locals := 90 }) (va_Pc [.int i] (g_Px G base (L, K, n, rI, rJ, rQ, fI, fR))) (g_Qv G base (fun _ : Unit => (L, K, n, rI, rJ, rQ, fI, fR)) (fun _ => ¬ i < 0 ∧ i ≤ 1000000)) (g_XC G base (L, K, n, rI, rJ, rQ, fI, fR) (fun E => E = "java/lang/IllegalArgumentException" ∧ (i < 0 ∨ ¬ i ≤ 1000000))) 1 6 (g_A base) := by
  refine vx_ofW (cc := cX2_requireTime) (maxL := 1) (ret := none) (by decide) rfl ?_
  intro p e s m args below meth c s₁ B hml hnt hv
  obtain ⟨rfl, hPr, hX⟩ := hv
  have hx := B.exec
  have hb := B.bytes
  have hr := B.returns
  have hts := atoms_spec (ws := wsX2_requireTime) B.pre
  have hown : s.vm.findClass RX2 = some m.cls := findClass_of_methodNamed B.named
  have hlocks := B.notSynchronized
  have hin : meth.name = "requireTime" := (name_of_methodNamed B.named B.method).1
  have hK := hPr.2.2
  have hG := hPr.gw
  have hl := lv_entry ([.int i]) (n := 1) (Nat.le_of_ble_eq_true rfl)
  rw [lg_entry_eq]
  generalize (lg_sl ([.int i]) ++ List.replicate (1 - (lg_sl ([.int i])).length) Slot.unset).toArray = ls at hl ⊢
  have hl : lv_has ls 1 [(0, .int i)] := hl
  refine g_start hPr (fun H locs hG => ?_)
  refine lv_iload_n hx hb dX2_requireTime_0 rfl (lv_at hl 0 rfl) ?_
  refine lv_if_lt (tgt := 10) hx hb dX2_requireTime_1 (by decide) (fun c0 => ?_) (fun c0 => ?_)
  · have hp : i < 0 ∨ ¬ i ≤ 1000000 := Or.inl c0
    exact g_throw (cls := "java/lang/IllegalArgumentException") (ik := 178) (is := 180) (ic := 182) hx hb hl0 hown (by decide +kernel) (hts (.classLink RX2 178 "java/lang/IllegalArgumentException") (by decide +kernel)) (hts (.initialized "java/lang/IllegalArgumentException") (by decide +kernel)) hX.2.2.2.2.2.2.1 (fun w hw => hts w (List.mem_cons_of_mem _ (List.mem_append_right _ hw))) (fun w h => List.mem_append_left _ (List.mem_append_right _ h)) (by decide +kernel) hX hG (hl.1.trans hml.symm) dX2_requireTime_10 dX2_requireTime_13 dX2_requireTime_14 dX2_requireTime_16 dX2_requireTime_19 hnt (Nat.le_of_ble_eq_true rfl) (Nat.le_of_ble_eq_true rfl) (Nat.le_of_ble_eq_true rfl) (Nat.le_of_ble_eq_true rfl) hlocks ⟨rfl, hp⟩ (Nat.le_of_ble_eq_true rfl) (Nat.le_of_ble_eq_true rfl)
  · refine lv_iload_n hx hb dX2_requireTime_4 rfl (lv_at hl 0 rfl) ?_
    refine lv_ldc (v := 1000000) hx hb hown (hts (.constant RX2 177 (1000000)) (by decide +kernel)) dX2_requireTime_5 ?_
    refine lv_icmp_le (tgt := 20) hx hb dX2_requireTime_7 (by decide) (fun c1 => ?_) (fun c1 => ?_)
    · refine vx_ret ?_
      refine W.widen (k := 1) (n := 6) (by omega) (by omega) ?_
      exact W.vret hx hb hr (fun t ht hW => ⟨⟨(), rfl, ⟨c0, c1⟩, hG.at ht⟩, hG.2.2.1.F ht⟩) hG.2.2.1.2.2 dX2_requireTime_20
    · have hp : i < 0 ∨ ¬ i ≤ 1000000 := Or.inr c1
      exact g_throw (cls := "java/lang/IllegalArgumentException") (ik := 178) (is := 180) (ic := 182) hx hb hl0 hown (by decide +kernel) (hts (.classLink RX2 178 "java/lang/IllegalArgumentException") (by decide +kernel)) (hts (.initialized "java/lang/IllegalArgumentException") (by decide +kernel)) hX.2.2.2.2.2.2.1 (fun w hw => hts w (List.mem_cons_of_mem _ (List.mem_append_right _ hw))) (fun w h => List.mem_append_left _ (List.mem_append_right _ h)) (by decide +kernel) hX hG (hl.1.trans hml.symm) dX2_requireTime_10 dX2_requireTime_13 dX2_requireTime_14 dX2_requireTime_16 dX2_requireTime_19 hnt (Nat.le_of_ble_eq_true rfl) (Nat.le_of_ble_eq_true rfl) (Nat.le_of_ble_eq_true rfl) (Nat.le_of_ble_eq_true rfl) hlocks ⟨rfl, hp⟩ (Nat.le_of_ble_eq_true rfl) (Nat.le_of_ble_eq_true rfl)
set_option maxHeartbeats 4000000 in
set_option maxRecDepth 100000 in
/-- replicaAt(i) -/
theorem c_replicaAt (l : Launch) (G : gG) (base : Nat) {L : List Nat} {K n : Nat → Nat} {rI : Nat → Nat → Int32} {rJ : Nat → Nat → Int64} {rQ : Nat → Nat → Option Nat} {fI : Nat → Nat → Int32} {fR : Nat → Nat → Option Nat} (hl0 : l.stackTraces = false) {x ra ma d tr od : Nat} (hDk : isDk L K n fR x ra ma d tr od) {sa : Nat → Nat} (hQ : ∀ r, r < 6 → rQ ra r = some (sa r)) {i : Int32} : vx_Met l yX2_replicaAt wsX2_replicaAt ({ frames := 6, cells := 1, slots := 6, locals := 90 }) (va_Pc [.ref x, .int i] (g_Px G base (L, K, n, rI, rJ, rQ, fI, fR))) (g_Qr G base (fun _ : Nat => (L, K, n, rI, rJ, rQ, fI, fR)) (fun a r => r < 6 ∧ i = nI r ∧ a = sa r)) (g_XC G base (L, K, n, rI, rJ, rQ, fI, fR) (fun E => E = "java/lang/IndexOutOfBoundsException" ∧ ¬ okI i 6)) 1 6 (g_A base) := by
  have hDk0 := hDk
  obtain ⟨hLx, hKx, h0x, h1x, h2x, h3x, h4x, hLra, hKra, hnra, hLma, hKma, hnma, hLod, hKod, hnod⟩ := hDk0
  refine vx_ofW (cc := cX2_replicaAt) (maxL := 2) (ret := (some (.object "DotStores$State"))) (by decide) rfl ?_
  intro p e s m args below meth c s₁ B hml hnt hv
  obtain ⟨rfl, hPr, hX⟩ := hv
  have hx := B.exec
  have hb := B.bytes
  have hr := B.returns
  have hts := atoms_spec (ws := wsX2_replicaAt) B.pre
  have hown : s.vm.findClass RX2 = some m.cls := findClass_of_methodNamed B.named
  have hlocks := B.notSynchronized
  have hin : meth.name = "replicaAt" := (name_of_methodNamed B.named B.method).1
  have hK := hPr.2.2
  have hG := hPr.gw
  have hl := lv_entry ([.ref x, .int i]) (n := 2) (Nat.le_of_ble_eq_true rfl)
  rw [lg_entry_eq]
  generalize (lg_sl ([.ref x, .int i]) ++ List.replicate (2 - (lg_sl ([.ref x, .int i])).length) Slot.unset).toArray = ls at hl ⊢
  have hl : lv_has ls 2 [(0, .ref x), (1, .int i)] := hl
  refine g_start hPr (fun H locs hG => ?_)
  refine lv_iload_n hx hb dX2_replicaAt_0 rfl (lv_at hl 1 rfl) ?_
  refine lv_if_lt (tgt := 22) hx hb dX2_replicaAt_1 (by decide) (fun c0 => ?_) (fun c0 => ?_)
  · have hp : ¬ okI i 6 := okI_no (by decide) (Or.inl c0)
    exact g_throw (cls := "java/lang/IndexOutOfBoundsException") (ik := 161) (is := 163) (ic := 165) hx hb hl0 hown (by decide +kernel) (hts (.classLink RX2 161 "java/lang/IndexOutOfBoundsException") (by decide +kernel)) (hts (.initialized "java/lang/IndexOutOfBoundsException") (by decide +kernel)) hX.2.2.1 (fun w hw => hts w (List.mem_cons_of_mem _ (List.mem_append_right _ hw))) (fun w h => List.mem_append_left _ (List.mem_append_left _ (List.mem_append_left _ (List.mem_append_left _ h)))) (by decide +kernel) hX hG (hl.1.trans hml.symm) dX2_replicaAt_22 dX2_replicaAt_25 dX2_replicaAt_26 dX2_replicaAt_28 dX2_replicaAt_31 hnt (Nat.le_of_ble_eq_true rfl) (Nat.le_of_ble_eq_true rfl) (Nat.le_of_ble_eq_true rfl) (Nat.le_of_ble_eq_true rfl) hlocks ⟨rfl, hp⟩ (Nat.le_of_ble_eq_true rfl) (Nat.le_of_ble_eq_true rfl)
  · refine lv_iload_n hx hb dX2_replicaAt_4 rfl (lv_at hl 1 rfl) ?_
    refine lv_aload_n hx hb dX2_replicaAt_5 rfl (lv_at hl 0 rfl) ?_
    refine r_Desk_replicas hx hb hts (by decide +kernel) hown hK hG hLx hKx h0x (hts (.fieldLink RX2 11 "DotStores" "replicas" "[LDotStores$State;") (by decide +kernel)) dX2_replicaAt_6 ?_
    refine g_alen7 hx hb hK hG hLra hKra 6 hnra dX2_replicaAt_9 ?_
    refine lv_icmp_ge (tgt := 22) hx hb dX2_replicaAt_10 (by decide) (fun c1 => ?_) (fun c1 => ?_)
    · have hp : ¬ okI i 6 := okI_no (by decide) (Or.inr (by rw [Int32.not_lt]; exact c1))
      exact g_throw (cls := "java/lang/IndexOutOfBoundsException") (ik := 161) (is := 163) (ic := 165) hx hb hl0 hown (by decide +kernel) (hts (.classLink RX2 161 "java/lang/IndexOutOfBoundsException") (by decide +kernel)) (hts (.initialized "java/lang/IndexOutOfBoundsException") (by decide +kernel)) hX.2.2.1 (fun w hw => hts w (List.mem_cons_of_mem _ (List.mem_append_right _ hw))) (fun w h => List.mem_append_left _ (List.mem_append_left _ (List.mem_append_left _ (List.mem_append_left _ h)))) (by decide +kernel) hX hG (hl.1.trans hml.symm) dX2_replicaAt_22 dX2_replicaAt_25 dX2_replicaAt_26 dX2_replicaAt_28 dX2_replicaAt_31 hnt (Nat.le_of_ble_eq_true rfl) (Nat.le_of_ble_eq_true rfl) (Nat.le_of_ble_eq_true rfl) (Nat.le_of_ble_eq_true rfl) hlocks ⟨rfl, hp⟩ (Nat.le_of_ble_eq_true rfl) (Nat.le_of_ble_eq_true rfl)
    · obtain ⟨j, hj, rfl, -⟩ := pk_mu c0 c1 (by decide)
      refine lv_aload_n hx hb dX2_replicaAt_13 rfl (lv_at hl 0 rfl) ?_
      refine r_Desk_replicas hx hb hts (by decide +kernel) hown hK hG hLx hKx h0x (hts (.fieldLink RX2 11 "DotStores" "replicas" "[LDotStores$State;") (by decide +kernel)) dX2_replicaAt_14 ?_
      refine lv_iload_n hx hb dX2_replicaAt_17 rfl (lv_at hl 1 rfl) ?_
      refine g_aald hx hb hK hG hLra hKra (j) rfl (by rw [hnra]; exact hj) (by rw [hnra]; decide) dX2_replicaAt_18 ?_
      rw [show va_rf (rQ ra (j)) = Value.ref (sa j) from (by rw [hQ j hj]; rfl)]
      refine lv_ifnonnull (tgt := 32) hx hb dX2_replicaAt_19 (by decide) ?_
      refine lv_aload_n hx hb dX2_replicaAt_32 rfl (lv_at hl 0 rfl) ?_
      refine r_Desk_replicas hx hb hts (by decide +kernel) hown hK hG hLx hKx h0x (hts (.fieldLink RX2 11 "DotStores" "replicas" "[LDotStores$State;") (by decide +kernel)) dX2_replicaAt_33 ?_
      refine lv_iload_n hx hb dX2_replicaAt_36 rfl (lv_at hl 1 rfl) ?_
      refine g_aald hx hb hK hG hLra hKra (j) rfl (by rw [hnra]; exact hj) (by rw [hnra]; decide) dX2_replicaAt_37 ?_
      rw [show va_rf (rQ ra (j)) = Value.ref (sa j) from (by rw [hQ j hj]; rfl)]
      refine vx_ret ?_
      refine W.widen (k := 1) (n := 6) (by omega) (by omega) ?_
      exact W.aret (v := .ref (sa j)) hx hb hr (Or.inl ⟨_, rfl⟩) (Or.inr ⟨_, rfl⟩) (fun t ht hW => ⟨⟨(sa j), j, rfl, ⟨hj, rfl, rfl⟩, hG.at ht⟩, hG.2.2.1.F ht⟩) hG.2.2.1.2.2 dX2_replicaAt_38
set_option maxHeartbeats 4000000 in
set_option maxRecDepth 100000 in
/-- deltaAt(i) -/
theorem c_deltaAt (l : Launch) (G : gG) (base : Nat) {L : List Nat} {K n : Nat → Nat} {rI : Nat → Nat → Int32} {rJ : Nat → Nat → Int64} {rQ : Nat → Nat → Option Nat} {fI : Nat → Nat → Int32} {fR : Nat → Nat → Option Nat} (hl0 : l.stackTraces = false) {x ra ma d tr od : Nat} (hDk : isDk L K n fR x ra ma d tr od) {nd : Nat} {sa : Nat → Nat} (hnd : nd ≤ 250) (hQ : ∀ r, r < nd → rQ ma r = some (sa r)) (hQn : ∀ r, nd ≤ r → r < 250 → rQ ma r = none) {i : Int32} : vx_Met l yX2_deltaAt wsX2_deltaAt ({ frames := 6, cells := 1, slots := 6, locals := 90 }) (va_Pc [.ref x, .int i] (g_Px G base (L, K, n, rI, rJ, rQ, fI, fR))) (g_Qr G base (fun _ : Nat => (L, K, n, rI, rJ, rQ, fI, fR)) (fun a r => r < nd ∧ i = nI r ∧ a = sa r)) (g_XC G base (L, K, n, rI, rJ, rQ, fI, fR) (fun E => E = "java/lang/IndexOutOfBoundsException" ∧ ¬ okI i nd)) 1 6 (g_A base) := by
  have hDk0 := hDk
  obtain ⟨hLx, hKx, h0x, h1x, h2x, h3x, h4x, hLra, hKra, hnra, hLma, hKma, hnma, hLod, hKod, hnod⟩ := hDk0
  refine vx_ofW (cc := cX2_deltaAt) (maxL := 2) (ret := (some (.object "DotStores$State"))) (by decide) rfl ?_
  intro p e s m args below meth c s₁ B hml hnt hv
  obtain ⟨rfl, hPr, hX⟩ := hv
  have hx := B.exec
  have hb := B.bytes
  have hr := B.returns
  have hts := atoms_spec (ws := wsX2_deltaAt) B.pre
  have hown : s.vm.findClass RX2 = some m.cls := findClass_of_methodNamed B.named
  have hlocks := B.notSynchronized
  have hin : meth.name = "deltaAt" := (name_of_methodNamed B.named B.method).1
  have hK := hPr.2.2
  have hG := hPr.gw
  have hl := lv_entry ([.ref x, .int i]) (n := 2) (Nat.le_of_ble_eq_true rfl)
  rw [lg_entry_eq]
  generalize (lg_sl ([.ref x, .int i]) ++ List.replicate (2 - (lg_sl ([.ref x, .int i])).length) Slot.unset).toArray = ls at hl ⊢
  have hl : lv_has ls 2 [(0, .ref x), (1, .int i)] := hl
  refine g_start hPr (fun H locs hG => ?_)
  refine lv_iload_n hx hb dX2_deltaAt_0 rfl (lv_at hl 1 rfl) ?_
  refine lv_if_lt (tgt := 22) hx hb dX2_deltaAt_1 (by decide) (fun c0 => ?_) (fun c0 => ?_)
  · have hp : ¬ okI i nd := okI_no (by omega) (Or.inl c0)
    exact g_throw (cls := "java/lang/IndexOutOfBoundsException") (ik := 161) (is := 168) (ic := 165) hx hb hl0 hown (by decide +kernel) (hts (.classLink RX2 161 "java/lang/IndexOutOfBoundsException") (by decide +kernel)) (hts (.initialized "java/lang/IndexOutOfBoundsException") (by decide +kernel)) hX.2.2.2.1 (fun w hw => hts w (List.mem_cons_of_mem _ (List.mem_append_right _ hw))) (fun w h => List.mem_append_left _ (List.mem_append_left _ (List.mem_append_left _ (List.mem_append_left _ h)))) (by decide +kernel) hX hG (hl.1.trans hml.symm) dX2_deltaAt_22 dX2_deltaAt_25 dX2_deltaAt_26 dX2_deltaAt_28 dX2_deltaAt_31 hnt (Nat.le_of_ble_eq_true rfl) (Nat.le_of_ble_eq_true rfl) (Nat.le_of_ble_eq_true rfl) (Nat.le_of_ble_eq_true rfl) hlocks ⟨rfl, hp⟩ (Nat.le_of_ble_eq_true rfl) (Nat.le_of_ble_eq_true rfl)
  · refine lv_iload_n hx hb dX2_deltaAt_4 rfl (lv_at hl 1 rfl) ?_
    refine lv_aload_n hx hb dX2_deltaAt_5 rfl (lv_at hl 0 rfl) ?_
    refine r_Desk_made hx hb hts (by decide +kernel) hown hK hG hLx hKx h1x (hts (.fieldLink RX2 15 "DotStores" "made" "[LDotStores$State;") (by decide +kernel)) dX2_deltaAt_6 ?_
    refine g_alen7 hx hb hK hG hLma hKma 250 hnma dX2_deltaAt_9 ?_
    refine lv_icmp_ge (tgt := 22) hx hb dX2_deltaAt_10 (by decide) (fun c1 => ?_) (fun c1 => ?_)
    · have hp : ¬ okI i nd := fun z => okI_no (N := 250) (by decide) (Or.inr (by rw [Int32.not_lt]; exact c1)) (by obtain ⟨r, h1, h2⟩ := z; exact ⟨r, by omega, h2⟩)
      exact g_throw (cls := "java/lang/IndexOutOfBoundsException") (ik := 161) (is := 168) (ic := 165) hx hb hl0 hown (by decide +kernel) (hts (.classLink RX2 161 "java/lang/IndexOutOfBoundsException") (by decide +kernel)) (hts (.initialized "java/lang/IndexOutOfBoundsException") (by decide +kernel)) hX.2.2.2.1 (fun w hw => hts w (List.mem_cons_of_mem _ (List.mem_append_right _ hw))) (fun w h => List.mem_append_left _ (List.mem_append_left _ (List.mem_append_left _ (List.mem_append_left _ h)))) (by decide +kernel) hX hG (hl.1.trans hml.symm) dX2_deltaAt_22 dX2_deltaAt_25 dX2_deltaAt_26 dX2_deltaAt_28 dX2_deltaAt_31 hnt (Nat.le_of_ble_eq_true rfl) (Nat.le_of_ble_eq_true rfl) (Nat.le_of_ble_eq_true rfl) (Nat.le_of_ble_eq_true rfl) hlocks ⟨rfl, hp⟩ (Nat.le_of_ble_eq_true rfl) (Nat.le_of_ble_eq_true rfl)
    · obtain ⟨j, hj, rfl, -⟩ := pk_mu c0 c1 (by decide)
      rcases Nat.lt_or_ge j nd with hjn | hjn
      · refine lv_aload_n hx hb dX2_deltaAt_13 rfl (lv_at hl 0 rfl) ?_
        refine r_Desk_made hx hb hts (by decide +kernel) hown hK hG hLx hKx h1x (hts (.fieldLink RX2 15 "DotStores" "made" "[LDotStores$State;") (by decide +kernel)) dX2_deltaAt_14 ?_
        refine lv_iload_n hx hb dX2_deltaAt_17 rfl (lv_at hl 1 rfl) ?_
        refine g_aald hx hb hK hG hLma hKma (j) rfl (by rw [hnma]; exact hj) (by rw [hnma]; decide) dX2_deltaAt_18 ?_
        rw [show va_rf (rQ ma (j)) = Value.ref (sa j) from (by rw [hQ j hjn]; rfl)]
        refine lv_ifnonnull (tgt := 32) hx hb dX2_deltaAt_19 (by decide) ?_
        refine lv_aload_n hx hb dX2_deltaAt_32 rfl (lv_at hl 0 rfl) ?_
        refine r_Desk_made hx hb hts (by decide +kernel) hown hK hG hLx hKx h1x (hts (.fieldLink RX2 15 "DotStores" "made" "[LDotStores$State;") (by decide +kernel)) dX2_deltaAt_33 ?_
        refine lv_iload_n hx hb dX2_deltaAt_36 rfl (lv_at hl 1 rfl) ?_
        refine g_aald hx hb hK hG hLma hKma (j) rfl (by rw [hnma]; exact hj) (by rw [hnma]; decide) dX2_deltaAt_37 ?_
        rw [show va_rf (rQ ma (j)) = Value.ref (sa j) from (by rw [hQ j hjn]; rfl)]
        refine vx_ret ?_
        refine W.widen (k := 1) (n := 6) (by omega) (by omega) ?_
        exact W.aret (v := .ref (sa j)) hx hb hr (Or.inl ⟨_, rfl⟩) (Or.inr ⟨_, rfl⟩) (fun t ht hW => ⟨⟨(sa j), j, rfl, ⟨hjn, rfl, rfl⟩, hG.at ht⟩, hG.2.2.1.F ht⟩) hG.2.2.1.2.2 dX2_deltaAt_38
      · have hp : ¬ okI (nI j) nd := by
          rintro ⟨r, h1, h2⟩
          have := (nI_eq (by omega) (by omega)).mp h2
          omega
        refine lv_aload_n hx hb dX2_deltaAt_13 rfl (lv_at hl 0 rfl) ?_
        refine r_Desk_made hx hb hts (by decide +kernel) hown hK hG hLx hKx h1x (hts (.fieldLink RX2 15 "DotStores" "made" "[LDotStores$State;") (by decide +kernel)) dX2_deltaAt_14 ?_
        refine lv_iload_n hx hb dX2_deltaAt_17 rfl (lv_at hl 1 rfl) ?_
        refine g_aald hx hb hK hG hLma hKma (j) rfl (by rw [hnma]; exact hj) (by rw [hnma]; decide) dX2_deltaAt_18 ?_
        rw [show va_rf (rQ ma (j)) = Value.null from (by rw [hQn j hjn hj]; rfl)]
        refine lv_ifnonnullN hx hb dX2_deltaAt_19 ?_
        exact g_throw (cls := "java/lang/IndexOutOfBoundsException") (ik := 161) (is := 168) (ic := 165) hx hb hl0 hown (by decide +kernel) (hts (.classLink RX2 161 "java/lang/IndexOutOfBoundsException") (by decide +kernel)) (hts (.initialized "java/lang/IndexOutOfBoundsException") (by decide +kernel)) hX.2.2.2.1 (fun w hw => hts w (List.mem_cons_of_mem _ (List.mem_append_right _ hw))) (fun w h => List.mem_append_left _ (List.mem_append_left _ (List.mem_append_left _ (List.mem_append_left _ h)))) (by decide +kernel) hX hG (hl.1.trans hml.symm) dX2_deltaAt_22 dX2_deltaAt_25 dX2_deltaAt_26 dX2_deltaAt_28 dX2_deltaAt_31 hnt (Nat.le_of_ble_eq_true rfl) (Nat.le_of_ble_eq_true rfl) (Nat.le_of_ble_eq_true rfl) (Nat.le_of_ble_eq_true rfl) hlocks ⟨rfl, hp⟩ (Nat.le_of_ble_eq_true rfl) (Nat.le_of_ble_eq_true rfl)
set_option maxHeartbeats 4000000 in
set_option maxRecDepth 100000 in
/-- requireDot(r) -/
theorem c_requireDot (l : Launch) (G : gG) (base : Nat) {L : List Nat} {K n : Nat → Nat} {rI : Nat → Nat → Int32} {rJ : Nat → Nat → Int64} {rQ : Nat → Nat → Option Nat} {fI : Nat → Nat → Int32} {fR : Nat → Nat → Option Nat} (hl0 : l.stackTraces = false) {x ra ma d tr od : Nat} (hDk : isDk L K n fR x ra ma d tr od) {dr dn dk dp dv dg : Nat} (hD : isDt L K n fR d dr dn dk dp dv dg) {r cnt g : Nat} (hr6 : r < 6) (hcnt : fI d 6 = nI cnt) (hc25 : cnt ≤ 250) (hg : rI dg r = nI g) (hg1 : g ≤ 100) : vx_Met l yX2_requireDot wsX2_requireDot ({ frames := 6, cells := 1, slots := 6, locals := 90 }) (va_Pc [.ref x, .int (nI r)] (g_Px G base (L, K, n, rI, rJ, rQ, fI, fR))) (g_Qv G base (fun _ : Unit => (L, K, n, rI, rJ, rQ, fI, fR)) (fun _ => cnt < 250 ∧ g < 100)) (g_XC G base (L, K, n, rI, rJ, rQ, fI, fR) (fun E => E = "java/lang/IllegalStateException" ∧ ¬ (cnt < 250 ∧ g < 100))) 1 6 (g_A base) := by
  have hDk0 := hDk
  obtain ⟨hLx, hKx, h0x, h1x, h2x, h3x, h4x, hLra, hKra, hnra, hLma, hKma, hnma, hLod, hKod, hnod⟩ := hDk0
  have hD0 := hD
  obtain ⟨hLd, hKd, h0d, h1d, h2d, h3d, h4d, h5d, hLdr, hKdr, hndr, hLdn, hKdn, hndn, hLdk, hKdk, hndk, hLdp, hKdp, hndp, hLdv, hKdv, hndv, hLdg, hKdg, hndg⟩ := hD0
  refine vx_ofW (cc := cX2_requireDot) (maxL := 2) (ret := none) (by decide) rfl ?_
  intro p e s m args below meth c s₁ B hml hnt hv
  obtain ⟨rfl, hPr, hX⟩ := hv
  have hx := B.exec
  have hb := B.bytes
  have hr := B.returns
  have hts := atoms_spec (ws := wsX2_requireDot) B.pre
  have hown : s.vm.findClass RX2 = some m.cls := findClass_of_methodNamed B.named
  have hlocks := B.notSynchronized
  have hin : meth.name = "requireDot" := (name_of_methodNamed B.named B.method).1
  have hK := hPr.2.2
  have hG := hPr.gw
  have hl := lv_entry ([.ref x, .int (nI r)]) (n := 2) (Nat.le_of_ble_eq_true rfl)
  rw [lg_entry_eq]
  generalize (lg_sl ([.ref x, .int (nI r)]) ++ List.replicate (2 - (lg_sl ([.ref x, .int (nI r)])).length) Slot.unset).toArray = ls at hl ⊢
  have hl : lv_has ls 2 [(0, .ref x), (1, .int (nI r))] := hl
  refine g_start hPr (fun H locs hG => ?_)
  refine lv_aload_n hx hb dX2_requireDot_0 rfl (lv_at hl 0 rfl) ?_
  refine r_Desk_dots hx hb hts (by decide +kernel) hown hK hG hLx hKx h2x (hts (.fieldLink RX2 21 "DotStores" "dots" "LDotStores$Dots;") (by decide +kernel)) dX2_requireDot_1 ?_
  refine lv_iload_n hx hb dX2_requireDot_4 rfl (lv_at hl 1 rfl) ?_
  refine g_calli (va_runV (As := [.int (nI r)]) (rest := []) ⟨hx, hb, hml, hown, hts⟩ (c_canMake l G base hD hr6 hcnt hc25 hg hg1) (cwV 1 hts gX2_requireDot_X0_canMake rfl rfl rfl (by decide +kernel) ⟨(Nat.le_of_ble_eq_true rfl), (Nat.le_of_ble_eq_true rfl)⟩) (g_pv0 hK hG hLd hKd) rfl rfl hl.1 rfl (lv_room (Nat.le_of_ble_eq_true rfl)) dX2_requireDot_5 ⟨(Nat.le_of_ble_eq_true rfl), (Nat.le_of_ble_eq_true rfl)⟩) hG (fun r1 u H locs hp hG => ?_)
  subst hp
  refine lv_if_ne (tgt := 21) hx hb dX2_requireDot_8 (by decide) (fun c1 => ?_) (fun c1 => ?_)
  · have c2 := of_decide_eq_true (ts_nf (fun z => c1 (bi_0.mpr z)))
    refine vx_ret ?_
    refine W.widen (k := 1) (n := 6) (by omega) (by omega) ?_
    exact W.vret hx hb hr (fun t ht hW => ⟨⟨(), rfl, c2, hG.at ht⟩, hG.2.2.1.F ht⟩) hG.2.2.1.2.2 dX2_requireDot_21
  · have hp := of_decide_eq_false (bi_0.mp c1)
    exact g_throw (cls := "java/lang/IllegalStateException") (ik := 186) (is := 188) (ic := 190) hx hb hl0 hown (by decide +kernel) (hts (.classLink RX2 186 "java/lang/IllegalStateException") (by decide +kernel)) (hts (.initialized "java/lang/IllegalStateException") (by decide +kernel)) hX.2.2.2.2.2.2.2.1 (fun w hw => hts w (List.mem_cons_of_mem _ (List.mem_append_right _ hw))) (fun w h => List.mem_append_left _ (List.mem_append_left _ (List.mem_append_right _ h))) (by decide +kernel) hX hG (hl.1.trans hml.symm) dX2_requireDot_11 dX2_requireDot_14 dX2_requireDot_15 dX2_requireDot_17 dX2_requireDot_20 hnt (Nat.le_of_ble_eq_true rfl) (Nat.le_of_ble_eq_true rfl) (Nat.le_of_ble_eq_true rfl) (Nat.le_of_ble_eq_true rfl) hlocks ⟨rfl, hp⟩ (Nat.le_of_ble_eq_true rfl) (Nat.le_of_ble_eq_true rfl)
