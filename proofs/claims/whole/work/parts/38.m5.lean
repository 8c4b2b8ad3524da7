/-! changes, on values -/
def bBack (β : bT) (s D : Nat) (key part whose : Int32) : bT := bSL β D (tbM (b_S β D) (livB β s key part whose) 600) (b_L β D)
def bG (β : bT) (r : Nat) : Nat := grN (fun i => b_S β r (128 * r + i)) 100
def bNew (β : bT) (r D : Nat) (k p : Int32) (v : Int64) : bT := bSL (bDot β (101 * r + (bG β r + 1)) k p v) D (fun i => b_S β D i || decide (i = 128 * r + bG β r)) (fun i => b_L β D i || decide (i = 128 * r + bG β r))
def bFin (β0 β : bT) (r : Nat) : bT := bND (bJoin β (6 + b_nd β0) r) (b_nd β0 + 1)
def bTurn (β : bT) (r : Nat) (key part : Int32) (on : Bool) : bT := bFin β (if on then bNew (bBack (bEmp β (6 + b_nd β)) r (6 + b_nd β) key part (-1)) r (6 + b_nd β) key part 0 else bBack (bEmp β (6 + b_nd β)) r (6 + b_nd β) key part (-1)) r
def bWrite (β : bT) (r : Nat) (key : Int32) (v : Int64) : bT := bFin β (bNew (bBack (bEmp β (6 + b_nd β)) r (6 + b_nd β) key (-1) (-1)) r (6 + b_nd β) key 0 v) r
def bCount (β : bT) (r : Nat) (key : Int32) (x : Int64) : bT := bFin β (bNew (bBack (bEmp β (6 + b_nd β)) r (6 + b_nd β) key (-1) (nI r)) r (6 + b_nd β) key 0 (sumN (livB (bEmp β (6 + b_nd β)) r key (-1) (nI r)) (valB (bEmp β (6 + b_nd β))) 600 + x)) r
def bClear (β : bT) (r : Nat) (key : Int32) : bT := bFin β (bBack (bEmp β (6 + b_nd β)) r (6 + b_nd β) key (-1) (-1)) r
def bTwice (β : bT) (r e : Nat) (put : Bool) : bT := bFin β (bPT (bEmp β (6 + b_nd β)) (6 + b_nd β) (if put then 1 <<< (nI e &&& 31) else 0) (if put then 0 else 1 <<< (nI e &&& 31))) r
def bTimed (β : bT) (r e : Nat) (t : Int32) (on : Bool) : bT := bFin β (bTI (bEmp β (6 + b_nd β)) (6 + b_nd β) (u1 (b_tm (bEmp β (6 + b_nd β)) (6 + b_nd β)) e (t + 1)) (u1 (b_by (bEmp β (6 + b_nd β)) (6 + b_nd β)) e (nI r)) (u1 (b_in (bEmp β (6 + b_nd β)) (6 + b_nd β)) e on)) r
theorem bSL_o {β : bT} {k r : Nat} {S L : Nat → Bool} (h : r ≠ k) : b_S (bSL β k S L) r = b_S β r ∧ b_L (bSL β k S L) r = b_L β r := ⟨u1_ne _ _ h, u1_ne _ _ h⟩
theorem bEmp_o {β : bT} {k r : Nat} (h : r ≠ k) : b_S (bEmp β k) r = b_S β r ∧ b_L (bEmp β k) r = b_L β r := ⟨u1_ne _ _ h, u1_ne _ _ h⟩
theorem bG_back {β : bT} {r k : Nat} {key part whose : Int32} (h : r ≠ k) : bG (bBack (bEmp β k) r k key part whose) r = bG β r := by
  unfold bG bBack
  rw [(bSL_o h).1, (bEmp_o h).1]
theorem upR_1 {α : Type} {f : Nat → Nat → α} {a lo w i : Nat} {F : Nat → α} {x : α} (hi : i < w) (h : ∀ v, v < w → f a (lo + v) = F v) : upR (f a) (g_up f a (lo + i) x a) lo w (u1 F i x) := by
  refine ⟨fun v hv => ?_, fun j hj => g_up_i _ _ _ _ (by omega)⟩
  by_cases q : v = i
  · subst q; rw [g_up_at, u1_at]
  · rw [g_up_i _ _ _ _ (by omega), u1_ne _ _ q]; exact h v hv
theorem ref_le {β : bT} {v key kd : Int32} {pi on : Bool} {c : Nat} (h : refI β v key pi kd on c) : c ≤ 3 := by
  rcases h with h | h | ⟨q, h⟩
  · omega
  · omega
  · rcases h.2.2.2.2.2 with z | z <;> omega
theorem ref_0 {β : bT} {v key kd : Int32} {pi on : Bool} (h : refI β v key pi kd on 0) : ∃ q, q < 6 ∧ v = nI q ∧ b_nd β < 250 ∧ (on = true → bG β q < 100) := by
  rcases h with h | h | ⟨q, h1, h2, h3, h4, h5, h6 | h6⟩
  · exact absurd h.1 (by decide)
  · exact absurd h.1 (by decide)
  · exact ⟨q, h1, h2, h6.2⟩
  · exact absurd h6.1 (by decide)
/-- what the other changes refuse -/
def ref2 (β : bT) (A B : Prop) (c : Nat) : Prop := (c = 1 ∧ ¬ (A ∧ B)) ∨ (c = 2 ∧ (A ∧ B) ∧ ¬ b_nd β < 250) ∨ (c = 0 ∧ (A ∧ B) ∧ b_nd β < 250)
def ref3 (β : bT) (A B C : Prop) (c : Nat) : Prop := (c = 1 ∧ ¬ (A ∧ B)) ∨ (c = 2 ∧ (A ∧ B) ∧ ¬ C) ∨ (c = 3 ∧ (A ∧ B) ∧ C ∧ ¬ b_nd β < 250) ∨ (c = 0 ∧ (A ∧ B) ∧ C ∧ b_nd β < 250)
set_option maxHeartbeats 4000000 in
set_option maxRecDepth 100000 in
/-- newDot -/
theorem k_newDot (l : Launch) (G : gG) (base : Nat) {L : List Nat} {K n : Nat → Nat} {rI : Nat → Nat → Int32} {rJ : Nat → Nat → Int64} {rQ : Nat → Nat → Option Nat} {fI : Nat → Nat → Int32} {fR : Nat → Nat → Option Nat} {bm : Nat → Nat} {β : bT} (hM : RepM (L, K, n, rI, rJ, rQ, fI, fR) bm β) {q D : Nat} {key part : Int32} {v : Int64} (hq : q < 6) (hD : D < 257) (hg : bG β q < 100) : Met l yX3_newDot wsX3_newDot ({ frames := 2, cells := 0, slots := 0, locals := 46 }) (va_Pc [.ref (bm 0), .int (nI q), .int (nI D), .int key, .int part, .long v] (g_Pr G base (L, K, n, rI, rJ, rQ, fI, fR))) (g_Qv G base (fun u : (Nat → Nat → Int32) × (Nat → Nat → Int64) => (L, K, n, u.1, u.2, rQ, fI, fR)) (fun u => StpM (L, K, n, rI, rJ, rQ, fI, fR) bm (L, K, n, u.1, u.2, rQ, fI, fR) (bNew β q D key part v))) 0 0 (g_A base) := by
  have hMd : isMd L K n fR bm := hM.1
  have hMd0 := hMd
  obtain ⟨minj, mL0, mK0, ⟨mf2, mf3, mf4, mf5, mf6, mf7, mf8, mf9, mf10, mf11, mf13⟩, ⟨mL2, mK2, mn2⟩, ⟨mL3, mK3, mn3⟩, ⟨mL4, mK4, mn4⟩, ⟨mL5, mK5, mn5⟩, ⟨mL6, mK6, mn6⟩, ⟨mL7, mK7, mn7⟩, ⟨mL8, mK8, mn8⟩, ⟨mL9, mK9, mn9⟩, ⟨mL10, mK10, mn10⟩, ⟨mL11, mK11, mn11⟩, ⟨mL13, mK13, mn13⟩⟩ := hMd0
  have hdl : fI (bm 0) 1 = nI (b_nd β) := hM.2.1.1
  have hnd : b_nd β ≤ 250 := hM.2.1.2
  refine Met.ofW (cc := cX3_newDot) (maxL := 9) (ret := none) (by decide) rfl ?_
  intro p e s m args below meth c s₁ B hml hv
  obtain ⟨rfl, hPr⟩ := hv
  have hx := B.exec
  have hb := B.bytes
  have hr := B.returns
  have hts := atoms_spec (ws := wsX3_newDot) B.pre
  have hown : s.vm.findClass RX3 = some m.cls := findClass_of_methodNamed B.named
  have hlocks := B.notSynchronized
  have hin : meth.name = "newDot" := (name_of_methodNamed B.named B.method).1
  have hK := hPr.2.2
  have hG := hPr.gw
  have hl := lv_entry ([.ref (bm 0), .int (nI q), .int (nI D), .int key, .int part, .long v]) (n := 9) (Nat.le_of_ble_eq_true rfl)
  rw [lg_entry_eq]
  generalize (lg_sl ([.ref (bm 0), .int (nI q), .int (nI D), .int key, .int part, .long v]) ++ List.replicate (9 - (lg_sl ([.ref (bm 0), .int (nI q), .int (nI D), .int key, .int part, .long v])).length) Slot.unset).toArray = ls at hl ⊢
  have hl : lv_has ls 9 [(0, .ref (bm 0)), (1, .int (nI q)), (2, .int (nI D)), (3, .int key), (4, .int part), (5, .long v)] := hl
  refine g_start hPr (fun H locs hG => ?_)
  refine lv_aload_n hx hb dX3_newDot_0 rfl (lv_at hl 0 rfl) ?_
  refine lv_iload_n hx hb dX3_newDot_1 rfl (lv_at hl 1 rfl) ?_
  refine lv_iload_n hx hb dX3_newDot_2 rfl (lv_at hl 1 rfl) ?_
  refine g_calli (va_runV (As := [.int (nI q), .int (nI q)]) (rest := []) ⟨hx, hb, hml, hown, hts⟩ (k_greatest l G base hM (k := q) (q := q) (by omega) hq) (cwV 2 hts gX3_newDot_X3_greatest rfl rfl rfl (by decide +kernel) ⟨(Nat.le_of_ble_eq_true rfl), (Nat.le_of_ble_eq_true rfl)⟩) (g_pv3 hK hG mL0 mK0) rfl rfl hl.1 rfl (lv_room (Nat.le_of_ble_eq_true rfl)) dX3_newDot_3 ⟨(Nat.le_of_ble_eq_true rfl), (Nat.le_of_ble_eq_true rfl)⟩) hG (fun y1 _ H locs hp hG => ?_)
  replace hp : y1 = nI (bG β q) := hp
  subst hp
  refine lv_iconst (v := 1) hx hb dX3_newDot_6 (by decide) ?_
  refine lv_iadd hx hb dX3_newDot_7 ?_
  refine lv_topi (fun z1 ez1 => ?_)
  obtain rfl : z1 = nI (bG β q + 1) := ez1.trans (nI_1 (bG β q))
  refine lv_istore (lv' := [(7, .int (nI (bG β q + 1))), (0, .ref (bm 0)), (1, .int (nI q)), (2, .int (nI D)), (3, .int key), (4, .int part), (5, .long v)]) hx hb dX3_newDot_8 hl (by decide) rfl (fun ls hl => ?_)
  refine lv_iload_n hx hb dX3_newDot_10 rfl (lv_at hl 2 rfl) ?_
  refine lv_iload hx hb dX3_newDot_11 (lv_at hl 0 rfl) ?_
  refine g_calli (va_runS (As := [.int (nI q), .int (nI (bG β q + 1))]) (rest := []) ⟨hx, hb, hml, hown, hts⟩ (k_dot l G base (q := q) (m1 := bG β q + 1)) (cwS 2 hts gX3_newDot_X3_dot rfl rfl rfl (by decide +kernel) ⟨(Nat.le_of_ble_eq_true rfl), (Nat.le_of_ble_eq_true rfl)⟩) (g_ps hK hG) rfl rfl hl.1 rfl (lv_room (Nat.le_of_ble_eq_true rfl)) dX3_newDot_13 ⟨(Nat.le_of_ble_eq_true rfl), (Nat.le_of_ble_eq_true rfl)⟩) hG (fun y2 _ H locs hp hG => ?_)
  subst hp
  refine lv_istore (lv' := [(8, .int (nI (101 * q + (bG β q + 1)))), (7, .int (nI (bG β q + 1))), (0, .ref (bm 0)), (1, .int (nI q)), (2, .int (nI D)), (3, .int key), (4, .int part), (5, .long v)]) hx hb dX3_newDot_16 hl (by decide) rfl (fun ls hl => ?_)
  refine lv_aload_n hx hb dX3_newDot_18 rfl (lv_at hl 2 rfl) ?_
  refine r_Model_dotKey hx hb hts (by decide +kernel) hown hK hG mL0 mK0 mf9 (hts (.fieldLink RX3 33 "DotStoresModel" "dotKey" "[I") (by decide +kernel)) dX3_newDot_19 ?_
  refine lv_iload hx hb dX3_newDot_22 (lv_at hl 0 rfl) ?_
  refine lv_iload_n hx hb dX3_newDot_24 rfl (lv_at hl 5 rfl) ?_
  refine g_iast hx hb hK hG mL9 mK9 (101 * q + (bG β q + 1)) rfl (by rw [mn9]; omega) (by rw [mn9]; decide) dX3_newDot_25 (fun H locs hG => ?_)
  refine lv_aload_n hx hb dX3_newDot_26 rfl (lv_at hl 2 rfl) ?_
  refine r_Model_dotPart hx hb hts (by decide +kernel) hown hK hG mL0 mK0 mf10 (hts (.fieldLink RX3 36 "DotStoresModel" "dotPart" "[I") (by decide +kernel)) dX3_newDot_27 ?_
  refine lv_iload hx hb dX3_newDot_30 (lv_at hl 0 rfl) ?_
  refine lv_iload hx hb dX3_newDot_32 (lv_at hl 6 rfl) ?_
  refine g_iast hx hb hK hG mL10 mK10 (101 * q + (bG β q + 1)) rfl (by rw [mn10]; omega) (by rw [mn10]; decide) dX3_newDot_34 (fun H locs hG => ?_)
  refine lv_aload_n hx hb dX3_newDot_35 rfl (lv_at hl 2 rfl) ?_
  refine r_Model_dotValue hx hb hts (by decide +kernel) hown hK hG mL0 mK0 mf11 (hts (.fieldLink RX3 39 "DotStoresModel" "dotValue" "[J") (by decide +kernel)) dX3_newDot_36 ?_
  refine lv_iload hx hb dX3_newDot_39 (lv_at hl 0 rfl) ?_
  refine lv_lload hx hb dX3_newDot_41 (lv_at hl 7 rfl) ?_
  refine g_last hx hb hK hG mL11 mK11 (101 * q + (bG β q + 1)) rfl (by rw [mn11]; omega) (by rw [mn11]; decide) dX3_newDot_43 (fun H locs hG => ?_)
  obtain ⟨i1, ei1⟩ : ∃ z, z = g_up (g_up rI (bm 9) (101 * q + (bG β q + 1)) key) (bm 10) (101 * q + (bG β q + 1)) part := ⟨_, rfl⟩
  obtain ⟨j1, ej1⟩ : ∃ z, z = g_up rJ (bm 11) (101 * q + (bG β q + 1)) v := ⟨_, rfl⟩
  replace hG : gw G base s.heap (L, K, n, i1, j1, rQ, fI, fR) H locs := by rw [ei1, ej1]; exact hG
  have hP1 := repM_D hM ei1 ej1
  refine lv_aload_n hx hb dX3_newDot_44 rfl (lv_at hl 2 rfl) ?_
  refine r_Model_seen hx hb hts (by decide +kernel) hown hK hG mL0 mK0 mf2 (hts (.fieldLink RX3 7 "DotStoresModel" "seen" "[J") (by decide +kernel)) dX3_newDot_45 ?_
  refine lv_iload_n hx hb dX3_newDot_48 rfl (lv_at hl 4 rfl) ?_
  refine lv_iload_n hx hb dX3_newDot_49 rfl (lv_at hl 3 rfl) ?_
  refine lv_iload hx hb dX3_newDot_50 (lv_at hl 1 rfl) ?_
  refine g_callv (va_runS (As := [.ref (bm 2), .int (nI D), .int (nI q), .int (nI (bG β q + 1))]) (rest := []) ⟨hx, hb, hml, hown, hts⟩ (k_set l G base (k := D) (q := q) (pp := bG β q) mL2 mK2 mn2 hD hq (by omega)) (cwS 4 hts gX3_newDot_X3_set rfl rfl rfl (by decide +kernel) ⟨(Nat.le_of_ble_eq_true rfl), (Nat.le_of_ble_eq_true rfl)⟩) (g_ps hK hG) rfl rfl hl.1 rfl (lv_room (Nat.le_of_ble_eq_true rfl)) dX3_newDot_52 ⟨(Nat.le_of_ble_eq_true rfl), (Nat.le_of_ble_eq_true rfl)⟩) hG (fun u1x H locs hp1 hG => ?_)
  refine lv_aload_n hx hb dX3_newDot_55 rfl (lv_at hl 2 rfl) ?_
  refine r_Model_live hx hb hts (by decide +kernel) hown hK hG mL0 mK0 mf3 (hts (.fieldLink RX3 13 "DotStoresModel" "live" "[J") (by decide +kernel)) dX3_newDot_56 ?_
  refine lv_iload_n hx hb dX3_newDot_59 rfl (lv_at hl 4 rfl) ?_
  refine lv_iload_n hx hb dX3_newDot_60 rfl (lv_at hl 3 rfl) ?_
  refine lv_iload hx hb dX3_newDot_61 (lv_at hl 1 rfl) ?_
  refine g_callv (va_runS (As := [.ref (bm 3), .int (nI D), .int (nI q), .int (nI (bG β q + 1))]) (rest := []) ⟨hx, hb, hml, hown, hts⟩ (k_set l G base (k := D) (q := q) (pp := bG β q) mL3 mK3 mn3 hD hq (by omega)) (cwS 4 hts gX3_newDot_X3_set rfl rfl rfl (by decide +kernel) ⟨(Nat.le_of_ble_eq_true rfl), (Nat.le_of_ble_eq_true rfl)⟩) (g_ps hK hG) rfl rfl hl.1 rfl (lv_room (Nat.le_of_ble_eq_true rfl)) dX3_newDot_63 ⟨(Nat.le_of_ble_eq_true rfl), (Nat.le_of_ble_eq_true rfl)⟩) hG (fun u2 H locs hp2 hG => ?_)
  have e2 : u2 (bm 2) = u1x (bm 2) := by rw [hp2, g_up_other _ _ _ (isMd_ne hMd (show okM 2 by decide) (show okM 3 by decide) (by decide))]
  have e3 : u1x (bm 3) = j1 (bm 3) := by rw [hp1, g_up_other _ _ _ (isMd_ne hMd (show okM 3 by decide) (show okM 2 by decide) (by decide))]
  have hP2 : StpM (L, K, n, rI, rJ, rQ, fI, fR) bm (L, K, n, i1, u2, rQ, fI, fR) (bNew β q D key part v) := hP1.tr (repM_J hP1.1 hD (FS := mr (u2 (bm 2)) D) (FL := mr (u2 (bm 3)) D) (by rw [e2, hp1]; exact mset_u hq (by omega)) (by rw [hp2, ← e3]; exact mset_u hq (by omega)) (fun b h1 h2 => by rw [hp2, g_up_other _ _ _ h2, hp1, g_up_other _ _ _ h1]) (fun i hi => by rw [e2, hp1, mset]; exact congrArg (· || decide (i = 128 * q + bG β q)) (hP1.1.2.2.1 D hD i hi).1) (fun i hi => by rw [hp2, mset, e3]; exact congrArg (· || decide (i = 128 * q + bG β q)) (hP1.1.2.2.1 D hD i hi).2))
  refine W.widen (k := 0) (n := 0) (by omega) (by omega) ?_
  exact W.vret hx hb hr (fun t9 h9 hW9 => ⟨⟨(i1, u2), rfl, hP2, hG.at h9⟩, hG.2.2.1.F h9⟩) hG.2.2.1.2.2 dX3_newDot_66
set_option maxHeartbeats 4000000 in
set_option maxRecDepth 100000 in
/-- change -/
theorem k_change (l : Launch) (G : gG) (base : Nat) {L : List Nat} {K n : Nat → Nat} {rI : Nat → Nat → Int32} {rJ : Nat → Nat → Int64} {rQ : Nat → Nat → Option Nat} {fI : Nat → Nat → Int32} {fR : Nat → Nat → Option Nat} {bm : Nat → Nat} {β : bT} (hM : RepM (L, K, n, rI, rJ, rQ, fI, fR) bm β) {q : Nat} {key part : Int32} {on : Bool} (hq : q < 6) (hlt : b_nd β < 250) (hg : on = true → bG β q < 100) : Met l yX3_change wsX3_change ({ frames := 3, cells := 0, slots := 0, locals := 74 }) (va_Pc [.ref (bm 0), .int (nI q), .int key, .int part, .int (bi on)] (g_Pr G base (L, K, n, rI, rJ, rQ, fI, fR))) (g_Qi G base (fun u : (Nat → Nat → Int32) × (Nat → Nat → Int64) × (Nat → Nat → Int32) => (L, K, n, u.1, u.2.1, rQ, u.2.2, fR)) (fun x u => x = nI (b_nd β) ∧ u.2.2 (bm 0) 0 = fI (bm 0) 0 ∧ StpM (L, K, n, rI, rJ, rQ, fI, fR) bm (L, K, n, u.1, u.2.1, rQ, u.2.2, fR) (bTurn β q key part on))) 0 0 (g_A base) := by
  have hMd : isMd L K n fR bm := hM.1
  have hMd0 := hMd
  obtain ⟨minj, mL0, mK0, ⟨mf2, mf3, mf4, mf5, mf6, mf7, mf8, mf9, mf10, mf11, mf13⟩, ⟨mL2, mK2, mn2⟩, ⟨mL3, mK3, mn3⟩, ⟨mL4, mK4, mn4⟩, ⟨mL5, mK5, mn5⟩, ⟨mL6, mK6, mn6⟩, ⟨mL7, mK7, mn7⟩, ⟨mL8, mK8, mn8⟩, ⟨mL9, mK9, mn9⟩, ⟨mL10, mK10, mn10⟩, ⟨mL11, mK11, mn11⟩, ⟨mL13, mK13, mn13⟩⟩ := hMd0
  have hdl : fI (bm 0) 1 = nI (b_nd β) := hM.2.1.1
  have hnd : b_nd β ≤ 250 := hM.2.1.2
  refine Met.ofW (cc := cX3_change) (maxL := 6) (ret := (some .int)) (by decide) rfl ?_
  intro p e s m args below meth c s₁ B hml hv
  obtain ⟨rfl, hPr⟩ := hv
  have hx := B.exec
  have hb := B.bytes
  have hr := B.returns
  have hts := atoms_spec (ws := wsX3_change) B.pre
  have hown : s.vm.findClass RX3 = some m.cls := findClass_of_methodNamed B.named
  have hlocks := B.notSynchronized
  have hin : meth.name = "change" := (name_of_methodNamed B.named B.method).1
  have hK := hPr.2.2
  have hG := hPr.gw
  have hl := lv_entry ([.ref (bm 0), .int (nI q), .int key, .int part, .int (bi on)]) (n := 6) (Nat.le_of_ble_eq_true rfl)
  rw [lg_entry_eq]
  generalize (lg_sl ([.ref (bm 0), .int (nI q), .int key, .int part, .int (bi on)]) ++ List.replicate (6 - (lg_sl ([.ref (bm 0), .int (nI q), .int key, .int part, .int (bi on)])).length) Slot.unset).toArray = ls at hl ⊢
  have hl : lv_has ls 6 [(0, .ref (bm 0)), (1, .int (nI q)), (2, .int key), (3, .int part), (4, .int (bi on))] := hl
  refine g_start hPr (fun H locs hG => ?_)
  refine lv_aload_n hx hb dX3_change_0 rfl (lv_at hl 0 rfl) ?_
  refine g_calli (va_runV (As := []) (rest := []) ⟨hx, hb, hml, hown, hts⟩ (k_fresh l G base hM hlt) (cwV 0 hts gX3_change_X3_fresh rfl rfl rfl (by decide +kernel) ⟨(Nat.le_of_ble_eq_true rfl), (Nat.le_of_ble_eq_true rfl)⟩) (g_pv3 hK hG mL0 mK0) rfl rfl hl.1 rfl (lv_room (Nat.le_of_ble_eq_true rfl)) dX3_change_1 ⟨(Nat.le_of_ble_eq_true rfl), (Nat.le_of_ble_eq_true rfl)⟩) hG (fun y7 u H locs hp hG => ?_)
  obtain ⟨i1, j1⟩ := u
  obtain ⟨e7, hF1⟩ := hp
  replace hG : gw G base s.heap (L, K, n, i1, j1, rQ, fI, fR) H locs := hG
  replace e7 : y7 = nI (6 + b_nd β) := e7
  subst e7
  replace hF1 : StpM (L, K, n, rI, rJ, rQ, fI, fR) bm (L, K, n, i1, j1, rQ, fI, fR) (bEmp β (6 + b_nd β)) := hF1
  refine lv_istore (lv' := [(5, .int (nI (6 + b_nd β))), (0, .ref (bm 0)), (1, .int (nI q)), (2, .int key), (3, .int part), (4, .int (bi on))]) hx hb dX3_change_4 hl (by decide) rfl (fun ls hl => ?_)
  refine lv_aload_n hx hb dX3_change_6 rfl (lv_at hl 1 rfl) ?_
  refine lv_iload_n hx hb dX3_change_7 rfl (lv_at hl 2 rfl) ?_
  refine lv_iload hx hb dX3_change_8 (lv_at hl 0 rfl) ?_
  refine lv_iload_n hx hb dX3_change_10 rfl (lv_at hl 3 rfl) ?_
  refine lv_iload_n hx hb dX3_change_11 rfl (lv_at hl 4 rfl) ?_
  refine lv_iconst (v := (-1)) hx hb dX3_change_12 (by decide) ?_
  refine g_calll (va_runV (As := [.int (nI q), .int (nI (6 + b_nd β)), .int key, .int part, .int (-1)]) (rest := []) ⟨hx, hb, hml, hown, hts⟩ (k_takeBack l G base hF1.1 (s9 := q) (D := 6 + b_nd β) (key := key) (part := part) (whose := (-1)) (by omega) (by omega)) (cwV 5 hts gX3_change_X3_takeBack rfl rfl rfl (by decide +kernel) ⟨(Nat.le_of_ble_eq_true rfl), (Nat.le_of_ble_eq_true rfl)⟩) (g_pv3 hK hG mL0 mK0) rfl rfl hl.1 rfl (lv_room (Nat.le_of_ble_eq_true rfl)) dX3_change_13 ⟨(Nat.le_of_ble_eq_true rfl), (Nat.le_of_ble_eq_true rfl)⟩) hG (fun y8 j2 H locs hp hG => ?_)
  obtain ⟨e8, hF2⟩ := hp
  replace hF2 : StpM (L, K, n, rI, rJ, rQ, fI, fR) bm (L, K, n, i1, j2, rQ, fI, fR) (bBack (bEmp β (6 + b_nd β)) q (6 + b_nd β) key part (-1)) := hF1.tr hF2
  refine lv_pop2_2 hx hb dX3_change_16 rfl ?_
  refine lv_iload hx hb dX3_change_17 (lv_at hl 5 rfl) ?_
  refine lv_if_eq (tgt := 32) hx hb dX3_change_19 (by decide) (fun c1 => ?_) (fun c1 => ?_)
  · have c1 := bi_0.mp c1
    subst c1
    refine lv_aload_n hx hb dX3_change_32 rfl (lv_at hl 1 rfl) ?_
    refine lv_iload_n hx hb dX3_change_33 rfl (lv_at hl 2 rfl) ?_
    refine lv_iload hx hb dX3_change_34 (lv_at hl 0 rfl) ?_
    refine g_calli (va_runV (As := [.int (nI q), .int (nI (6 + b_nd β))]) (rest := []) ⟨hx, hb, hml, hown, hts⟩ (k_done l G base hF2.1 (q := q) (k := 6 + b_nd β) (by omega) (by omega) hlt) (cwV 2 hts gX3_change_X3_done rfl rfl rfl (by decide +kernel) ⟨(Nat.le_of_ble_eq_true rfl), (Nat.le_of_ble_eq_true rfl)⟩) (g_pv3 hK hG mL0 mK0) rfl rfl hl.1 rfl (lv_room (Nat.le_of_ble_eq_true rfl)) dX3_change_36 ⟨(Nat.le_of_ble_eq_true rfl), (Nat.le_of_ble_eq_true rfl)⟩) hG (fun y9 u H locs hp hG => ?_)
    obtain ⟨i4, j4, f4⟩ := u
    obtain ⟨e9, ef9, hF4⟩ := hp
    replace hG : gw G base s.heap (L, K, n, i4, j4, rQ, f4, fR) H locs := hG
    replace e9 : y9 = nI (b_nd β) := e9
    subst e9
    replace ef9 : f4 (bm 0) 0 = fI (bm 0) 0 := ef9
    replace hF4 : StpM (L, K, n, rI, rJ, rQ, fI, fR) bm (L, K, n, i4, j4, rQ, f4, fR) (bTurn β q key part false) := hF2.tr hF4
    refine W.widen (k := 0) (n := 0) (by omega) (by omega) ?_
    exact W.iret (v := (nI (b_nd β))) hx hb hr (fun t9 h9 hW9 => ⟨⟨(nI (b_nd β)), (i4, j4, f4), rfl, ⟨rfl, ef9, hF4⟩, hG.at h9⟩, hG.2.2.1.F h9⟩) hG.2.2.1.2.2 dX3_change_39
  · have c1 := ts_nf (fun z => c1 (bi_0.mpr z))
    subst c1
    refine lv_aload_n hx hb dX3_change_22 rfl (lv_at hl 1 rfl) ?_
    refine lv_iload_n hx hb dX3_change_23 rfl (lv_at hl 2 rfl) ?_
    refine lv_iload hx hb dX3_change_24 (lv_at hl 0 rfl) ?_
    refine lv_iload_n hx hb dX3_change_26 rfl (lv_at hl 3 rfl) ?_
    refine lv_iload_n hx hb dX3_change_27 rfl (lv_at hl 4 rfl) ?_
    refine lv_lconst (v := 0) hx hb dX3_change_28 (by decide) ?_
    refine g_callv (va_runV (As := [.int (nI q), .int (nI (6 + b_nd β)), .int key, .int part, .long 0]) (rest := []) ⟨hx, hb, hml, hown, hts⟩ (k_newDot l G base hF2.1 (q := q) (D := 6 + b_nd β) (key := key) (part := part) (v := 0) hq (by omega) (by rw [bG_back (by omega)]; exact (hg rfl))) (cwV 5 hts gX3_change_X3_newDot rfl rfl rfl (by decide +kernel) ⟨(Nat.le_of_ble_eq_true rfl), (Nat.le_of_ble_eq_true rfl)⟩) (g_pv3 hK hG mL0 mK0) rfl rfl hl.1 rfl (lv_room (Nat.le_of_ble_eq_true rfl)) dX3_change_29 ⟨(Nat.le_of_ble_eq_true rfl), (Nat.le_of_ble_eq_true rfl)⟩) hG (fun u H locs hp hG => ?_)
    obtain ⟨i3, j3⟩ := u
    replace hG : gw G base s.heap (L, K, n, i3, j3, rQ, fI, fR) H locs := hG
    have hF3 : StpM (L, K, n, rI, rJ, rQ, fI, fR) bm (L, K, n, i3, j3, rQ, fI, fR) (bNew (bBack (bEmp β (6 + b_nd β)) q (6 + b_nd β) key part (-1)) q (6 + b_nd β) key part (0)) := hF2.tr hp
    refine lv_aload_n hx hb dX3_change_32 rfl (lv_at hl 1 rfl) ?_
    refine lv_iload_n hx hb dX3_change_33 rfl (lv_at hl 2 rfl) ?_
    refine lv_iload hx hb dX3_change_34 (lv_at hl 0 rfl) ?_
    refine g_calli (va_runV (As := [.int (nI q), .int (nI (6 + b_nd β))]) (rest := []) ⟨hx, hb, hml, hown, hts⟩ (k_done l G base hF3.1 (q := q) (k := 6 + b_nd β) (by omega) (by omega) hlt) (cwV 2 hts gX3_change_X3_done rfl rfl rfl (by decide +kernel) ⟨(Nat.le_of_ble_eq_true rfl), (Nat.le_of_ble_eq_true rfl)⟩) (g_pv3 hK hG mL0 mK0) rfl rfl hl.1 rfl (lv_room (Nat.le_of_ble_eq_true rfl)) dX3_change_36 ⟨(Nat.le_of_ble_eq_true rfl), (Nat.le_of_ble_eq_true rfl)⟩) hG (fun y9 u H locs hp hG => ?_)
    obtain ⟨i4, j4, f4⟩ := u
    obtain ⟨e9, ef9, hF4⟩ := hp
    replace hG : gw G base s.heap (L, K, n, i4, j4, rQ, f4, fR) H locs := hG
    replace e9 : y9 = nI (b_nd β) := e9
    subst e9
    replace ef9 : f4 (bm 0) 0 = fI (bm 0) 0 := ef9
    replace hF4 : StpM (L, K, n, rI, rJ, rQ, fI, fR) bm (L, K, n, i4, j4, rQ, f4, fR) (bTurn β q key part true) := hF3.tr hF4
    refine W.widen (k := 0) (n := 0) (by omega) (by omega) ?_
    exact W.iret (v := (nI (b_nd β))) hx hb hr (fun t9 h9 hW9 => ⟨⟨(nI (b_nd β)), (i4, j4, f4), rfl, ⟨rfl, ef9, hF4⟩, hG.at h9⟩, hG.2.2.1.F h9⟩) hG.2.2.1.2.2 dX3_change_39
set_option maxHeartbeats 4000000 in
set_option maxRecDepth 100000 in
/-- element -/
theorem k_element (l : Launch) (G : gG) (base : Nat) {L : List Nat} {K n : Nat → Nat} {rI : Nat → Nat → Int32} {rJ : Nat → Nat → Int64} {rQ : Nat → Nat → Option Nat} {fI : Nat → Nat → Int32} {fR : Nat → Nat → Option Nat} {bm : Nat → Nat} {β : bT} (hM : RepM (L, K, n, rI, rJ, rQ, fI, fR) bm β) {v key el : Int32} {on : Bool} : Met l yX3_element wsX3_element ({ frames := 4, cells := 0, slots := 0, locals := 99 }) (va_Pc [.ref (bm 0), .int v, .int key, .int el, .int (bi on)] (g_Pr G base (L, K, n, rI, rJ, rQ, fI, fR))) (g_Qi G base (fun u : ((Nat → Nat → Int32) × (Nat → Nat → Int64) × (Nat → Nat → Int32)) × Nat => (L, K, n, u.1.1, u.1.2.1, rQ, u.1.2.2, fR)) (fun x u => u.1.2.2 (bm 0) 0 = nI u.2 ∧ (∃ pb, (pb = true ↔ okI el 32) ∧ refI β v key pb 0 on u.2) ∧ ((u.2 = 0 ∧ x = nI (b_nd β) ∧ ∃ q, q < 6 ∧ v = nI q ∧ StpM (L, K, n, rI, rJ, rQ, fI, fR) bm (L, K, n, u.1.1, u.1.2.1, rQ, u.1.2.2, fR) (bTurn β q key el on)) ∨ (u.2 ≠ 0 ∧ StpM (L, K, n, rI, rJ, rQ, fI, fR) bm (L, K, n, u.1.1, u.1.2.1, rQ, u.1.2.2, fR) β)))) 0 0 (g_A base) := by
  have hMd : isMd L K n fR bm := hM.1
  have hMd0 := hMd
  obtain ⟨minj, mL0, mK0, ⟨mf2, mf3, mf4, mf5, mf6, mf7, mf8, mf9, mf10, mf11, mf13⟩, ⟨mL2, mK2, mn2⟩, ⟨mL3, mK3, mn3⟩, ⟨mL4, mK4, mn4⟩, ⟨mL5, mK5, mn5⟩, ⟨mL6, mK6, mn6⟩, ⟨mL7, mK7, mn7⟩, ⟨mL8, mK8, mn8⟩, ⟨mL9, mK9, mn9⟩, ⟨mL10, mK10, mn10⟩, ⟨mL11, mK11, mn11⟩, ⟨mL13, mK13, mn13⟩⟩ := hMd0
  have hdl : fI (bm 0) 1 = nI (b_nd β) := hM.2.1.1
  have hnd : b_nd β ≤ 250 := hM.2.1.2
  refine Met.ofW (cc := cX3_element) (maxL := 5) (ret := (some .int)) (by decide) rfl ?_
  intro p e s m args below meth c s₁ B hml hv
  obtain ⟨rfl, hPr⟩ := hv
  have hx := B.exec
  have hb := B.bytes
  have hr := B.returns
  have hts := atoms_spec (ws := wsX3_element) B.pre
  have hown : s.vm.findClass RX3 = some m.cls := findClass_of_methodNamed B.named
  have hlocks := B.notSynchronized
  have hin : meth.name = "element" := (name_of_methodNamed B.named B.method).1
  have hK := hPr.2.2
  have hG := hPr.gw
  have hl := lv_entry ([.ref (bm 0), .int v, .int key, .int el, .int (bi on)]) (n := 5) (Nat.le_of_ble_eq_true rfl)
  rw [lg_entry_eq]
  generalize (lg_sl ([.ref (bm 0), .int v, .int key, .int el, .int (bi on)]) ++ List.replicate (5 - (lg_sl ([.ref (bm 0), .int v, .int key, .int el, .int (bi on)])).length) Slot.unset).toArray = ls at hl ⊢
  have hl : lv_has ls 5 [(0, .ref (bm 0)), (1, .int v), (2, .int key), (3, .int el), (4, .int (bi on))] := hl
  refine g_start hPr (fun H locs hG => ?_)
  refine lv_aload_n hx hb dX3_element_0 rfl (lv_at hl 0 rfl) ?_
  refine lv_aload_n hx hb dX3_element_1 rfl (lv_at hl 0 rfl) ?_
  refine lv_iload_n hx hb dX3_element_2 rfl (lv_at hl 1 rfl) ?_
  refine lv_iload_n hx hb dX3_element_3 rfl (lv_at hl 2 rfl) ?_
  refine lv_iload_n hx hb dX3_element_4 rfl (lv_at hl 3 rfl) ?_
  refine g_calli (va_runS (As := [.int el]) (rest := [.int key, .int v, .ref (bm 0), .ref (bm 0)]) ⟨hx, hb, hml, hown, hts⟩ (k_isElement l G base (v := el)) (cwS 1 hts gX3_element_X3_isElement rfl rfl rfl (by decide +kernel) ⟨(Nat.le_of_ble_eq_true rfl), (Nat.le_of_ble_eq_true rfl)⟩) (g_ps hK hG) rfl rfl hl.1 rfl (lv_room (Nat.le_of_ble_eq_true rfl)) dX3_element_5 ⟨(Nat.le_of_ble_eq_true rfl), (Nat.le_of_ble_eq_true rfl)⟩) hG (fun y1 pb H locs hp hG => ?_)
  obtain ⟨e1, hpb⟩ := hp
  subst e1
  refine lv_iconst (v := 0) hx hb dX3_element_8 (by decide) ?_
  refine lv_iload hx hb dX3_element_9 (lv_at hl 4 rfl) ?_
  refine g_calli (va_runV (As := [.int v, .int key, .int (bi pb), .int 0, .int (bi on)]) (rest := [.ref (bm 0)]) ⟨hx, hb, hml, hown, hts⟩ (k_refusal l G base hM (v := v) (key := key) (pi := pb) (kd := 0) (on := on)) (cwV 5 hts gX3_element_X3_refusal rfl rfl rfl (by decide +kernel) ⟨(Nat.le_of_ble_eq_true rfl), (Nat.le_of_ble_eq_true rfl)⟩) (g_pv3 hK hG mL0 mK0) rfl rfl hl.1 rfl (lv_room (Nat.le_of_ble_eq_true rfl)) dX3_element_11 ⟨(Nat.le_of_ble_eq_true rfl), (Nat.le_of_ble_eq_true rfl)⟩) hG (fun y2 cc H locs hp hG => ?_)
  obtain ⟨e2, hrf⟩ := hp
  subst e2
  refine w_Model_thrown hx hb hts (by decide +kernel) hown hK hG mL0 mK0 (hts (.fieldLink RX3 45 "DotStoresModel" "thrown" "I") (by decide +kernel)) dX3_element_14 (fun H locs hG => ?_)
  obtain ⟨f1, ef1⟩ : ∃ z, z = g_up fI (bm 0) 0 (nI cc) := ⟨_, rfl⟩
  replace hG : gw G base s.heap (L, K, n, rI, rJ, rQ, f1, fR) H locs := by rw [ef1]; exact hG
  have hT1 : StpM (L, K, n, rI, rJ, rQ, fI, fR) bm (L, K, n, rI, rJ, rQ, f1, fR) β := repM_F0 hM (by rw [ef1, g_up_i _ _ _ _ (by decide)]) (fun b hb => by rw [ef1, g_up_other _ _ _ hb])
  have hf1 : f1 (bm 0) 0 = nI cc := by rw [ef1, g_up_at]
  refine lv_aload_n hx hb dX3_element_17 rfl (lv_at hl 0 rfl) ?_
  refine r_Model_thrown hx hb hts (by decide +kernel) hown hK hG mL0 mK0 (hts (.fieldLink RX3 45 "DotStoresModel" "thrown" "I") (by decide +kernel)) dX3_element_18 ?_
  refine lv_topi (fun z1 ez1 => ?_)
  obtain rfl : z1 = nI cc := ez1.trans (hf1)
  refine lv_if_le (tgt := 28) hx hb dX3_element_21 (by decide) (fun c1 => ?_) (fun c1 => ?_)
  · have hc0 : cc = 0 := Nat.le_zero.mp (nI_le_of (a := 0) (b := cc) (by have := ref_le hrf; omega) c1)
    subst hc0
    obtain ⟨q, hq, rfl, hlt, hg⟩ := ref_0 hrf
    refine lv_aload_n hx hb dX3_element_28 rfl (lv_at hl 0 rfl) ?_
    refine lv_iload_n hx hb dX3_element_29 rfl (lv_at hl 1 rfl) ?_
    refine lv_iload_n hx hb dX3_element_30 rfl (lv_at hl 2 rfl) ?_
    refine lv_iload_n hx hb dX3_element_31 rfl (lv_at hl 3 rfl) ?_
    refine lv_iload hx hb dX3_element_32 (lv_at hl 4 rfl) ?_
    refine g_calli (va_runV (As := [.int (nI q), .int key, .int el, .int (bi on)]) (rest := []) ⟨hx, hb, hml, hown, hts⟩ (k_change l G base hT1.1 (q := q) (key := key) (part := el) (on := on) hq hlt hg) (cwV 4 hts gX3_element_X3_change rfl rfl rfl (by decide +kernel) ⟨(Nat.le_of_ble_eq_true rfl), (Nat.le_of_ble_eq_true rfl)⟩) (g_pv3 hK hG mL0 mK0) rfl rfl hl.1 rfl (lv_room (Nat.le_of_ble_eq_true rfl)) dX3_element_34 ⟨(Nat.le_of_ble_eq_true rfl), (Nat.le_of_ble_eq_true rfl)⟩) hG (fun y3 u H locs hp hG => ?_)
    obtain ⟨i4, j4, f4⟩ := u
    obtain ⟨e3, ef3, hF4⟩ := hp
    replace hG : gw G base s.heap (L, K, n, i4, j4, rQ, f4, fR) H locs := hG
    replace e3 : y3 = nI (b_nd β) := e3
    subst e3
    replace ef3 : f4 (bm 0) 0 = f1 (bm 0) 0 := ef3
    replace hF4 : StpM (L, K, n, rI, rJ, rQ, fI, fR) bm (L, K, n, i4, j4, rQ, f4, fR) (bTurn β q key el on) := hT1.tr hF4
    refine W.widen (k := 0) (n := 0) (by omega) (by omega) ?_
    exact W.iret (v := (nI (b_nd β))) hx hb hr (fun t9 h9 hW9 => ⟨⟨(nI (b_nd β)), ((i4, j4, f4), 0), rfl, ⟨ef3.trans hf1, ⟨pb, hpb, hrf⟩, Or.inl ⟨rfl, rfl, q, hq, rfl, hF4⟩⟩, hG.at h9⟩, hG.2.2.1.F h9⟩) hG.2.2.1.2.2 dX3_element_37
  · have hc0 : cc ≠ 0 := fun z => c1 (by rw [z]; decide)
    refine lv_iconst (v := 0) hx hb dX3_element_24 (by decide) ?_
    refine lv_goto (tgt := 37) hx hb dX3_element_25 (by decide) ?_
    refine W.widen (k := 0) (n := 0) (by omega) (by omega) ?_
    exact W.iret (v := 0) hx hb hr (fun t9 h9 hW9 => ⟨⟨0, ((rI, rJ, f1), cc), rfl, ⟨hf1, ⟨pb, hpb, hrf⟩, Or.inr ⟨hc0, hT1⟩⟩, hG.at h9⟩, hG.2.2.1.F h9⟩) hG.2.2.1.2.2 dX3_element_37
set_option maxHeartbeats 4000000 in
set_option maxRecDepth 100000 in
/-- flag -/
theorem k_flag (l : Launch) (G : gG) (base : Nat) {L : List Nat} {K n : Nat → Nat} {rI : Nat → Nat → Int32} {rJ : Nat → Nat → Int64} {rQ : Nat → Nat → Option Nat} {fI : Nat → Nat → Int32} {fR : Nat → Nat → Option Nat} {bm : Nat → Nat} {β : bT} (hM : RepM (L, K, n, rI, rJ, rQ, fI, fR) bm β) {v key el : Int32} {on : Bool} : Met l yX3_flag wsX3_flag ({ frames := 4, cells := 0, slots := 0, locals := 99 }) (va_Pc [.ref (bm 0), .int v, .int key, .int el, .int (bi on)] (g_Pr G base (L, K, n, rI, rJ, rQ, fI, fR))) (g_Qi G base (fun u : ((Nat → Nat → Int32) × (Nat → Nat → Int64) × (Nat → Nat → Int32)) × Nat => (L, K, n, u.1.1, u.1.2.1, rQ, u.1.2.2, fR)) (fun x u => u.1.2.2 (bm 0) 0 = nI u.2 ∧ (∃ pb, (pb = true ↔ okI el 8) ∧ refI β v key pb 3 on u.2) ∧ ((u.2 = 0 ∧ x = nI (b_nd β) ∧ ∃ q, q < 6 ∧ v = nI q ∧ StpM (L, K, n, rI, rJ, rQ, fI, fR) bm (L, K, n, u.1.1, u.1.2.1, rQ, u.1.2.2, fR) (bTurn β q key el on)) ∨ (u.2 ≠ 0 ∧ StpM (L, K, n, rI, rJ, rQ, fI, fR) bm (L, K, n, u.1.1, u.1.2.1, rQ, u.1.2.2, fR) β)))) 0 0 (g_A base) := by
  have hMd : isMd L K n fR bm := hM.1
  have hMd0 := hMd
  obtain ⟨minj, mL0, mK0, ⟨mf2, mf3, mf4, mf5, mf6, mf7, mf8, mf9, mf10, mf11, mf13⟩, ⟨mL2, mK2, mn2⟩, ⟨mL3, mK3, mn3⟩, ⟨mL4, mK4, mn4⟩, ⟨mL5, mK5, mn5⟩, ⟨mL6, mK6, mn6⟩, ⟨mL7, mK7, mn7⟩, ⟨mL8, mK8, mn8⟩, ⟨mL9, mK9, mn9⟩, ⟨mL10, mK10, mn10⟩, ⟨mL11, mK11, mn11⟩, ⟨mL13, mK13, mn13⟩⟩ := hMd0
  have hdl : fI (bm 0) 1 = nI (b_nd β) := hM.2.1.1
  have hnd : b_nd β ≤ 250 := hM.2.1.2
  refine Met.ofW (cc := cX3_flag) (maxL := 5) (ret := (some .int)) (by decide) rfl ?_
  intro p e s m args below meth c s₁ B hml hv
  obtain ⟨rfl, hPr⟩ := hv
  have hx := B.exec
  have hb := B.bytes
  have hr := B.returns
  have hts := atoms_spec (ws := wsX3_flag) B.pre
  have hown : s.vm.findClass RX3 = some m.cls := findClass_of_methodNamed B.named
  have hlocks := B.notSynchronized
  have hin : meth.name = "flag" := (name_of_methodNamed B.named B.method).1
  have hK := hPr.2.2
  have hG := hPr.gw
  have hl := lv_entry ([.ref (bm 0), .int v, .int key, .int el, .int (bi on)]) (n := 5) (Nat.le_of_ble_eq_true rfl)
  rw [lg_entry_eq]
  generalize (lg_sl ([.ref (bm 0), .int v, .int key, .int el, .int (bi on)]) ++ List.replicate (5 - (lg_sl ([.ref (bm 0), .int v, .int key, .int el, .int (bi on)])).length) Slot.unset).toArray = ls at hl ⊢
  have hl : lv_has ls 5 [(0, .ref (bm 0)), (1, .int v), (2, .int key), (3, .int el), (4, .int (bi on))] := hl
  refine g_start hPr (fun H locs hG => ?_)
  refine lv_aload_n hx hb dX3_flag_0 rfl (lv_at hl 0 rfl) ?_
  refine lv_aload_n hx hb dX3_flag_1 rfl (lv_at hl 0 rfl) ?_
  refine lv_iload_n hx hb dX3_flag_2 rfl (lv_at hl 1 rfl) ?_
  refine lv_iload_n hx hb dX3_flag_3 rfl (lv_at hl 2 rfl) ?_
  refine lv_iload_n hx hb dX3_flag_4 rfl (lv_at hl 3 rfl) ?_
  refine lv_iconst (v := 0) hx hb dX3_flag_5 (by decide) ?_
  refine lv_bipush (v := 7) hx hb dX3_flag_6 (by decide) ?_
  refine g_calli (va_runS (As := [.int el, .int 0, .int 7]) (rest := [.int key, .int v, .ref (bm 0), .ref (bm 0)]) ⟨hx, hb, hml, hown, hts⟩ (k_in l G base (v := el) (lo := 0) (hi := 7)) (cwS 3 hts gX3_flag_X3_in rfl rfl rfl (by decide +kernel) ⟨(Nat.le_of_ble_eq_true rfl), (Nat.le_of_ble_eq_true rfl)⟩) (g_ps hK hG) rfl rfl hl.1 rfl (lv_room (Nat.le_of_ble_eq_true rfl)) dX3_flag_8 ⟨(Nat.le_of_ble_eq_true rfl), (Nat.le_of_ble_eq_true rfl)⟩) hG (fun y1 pb H locs hp hG => ?_)
  obtain ⟨e1, hpb⟩ := hp
  replace hpb := hpb.trans (okI_le (v := el) (N := 8) (by decide))
  subst e1
  refine lv_iconst (v := 3) hx hb dX3_flag_11 (by decide) ?_
  refine lv_iload hx hb dX3_flag_12 (lv_at hl 4 rfl) ?_
  refine g_calli (va_runV (As := [.int v, .int key, .int (bi pb), .int 3, .int (bi on)]) (rest := [.ref (bm 0)]) ⟨hx, hb, hml, hown, hts⟩ (k_refusal l G base hM (v := v) (key := key) (pi := pb) (kd := 3) (on := on)) (cwV 5 hts gX3_flag_X3_refusal rfl rfl rfl (by decide +kernel) ⟨(Nat.le_of_ble_eq_true rfl), (Nat.le_of_ble_eq_true rfl)⟩) (g_pv3 hK hG mL0 mK0) rfl rfl hl.1 rfl (lv_room (Nat.le_of_ble_eq_true rfl)) dX3_flag_14 ⟨(Nat.le_of_ble_eq_true rfl), (Nat.le_of_ble_eq_true rfl)⟩) hG (fun y2 cc H locs hp hG => ?_)
  obtain ⟨e2, hrf⟩ := hp
  subst e2
  refine w_Model_thrown hx hb hts (by decide +kernel) hown hK hG mL0 mK0 (hts (.fieldLink RX3 45 "DotStoresModel" "thrown" "I") (by decide +kernel)) dX3_flag_17 (fun H locs hG => ?_)
  obtain ⟨f1, ef1⟩ : ∃ z, z = g_up fI (bm 0) 0 (nI cc) := ⟨_, rfl⟩
  replace hG : gw G base s.heap (L, K, n, rI, rJ, rQ, f1, fR) H locs := by rw [ef1]; exact hG
  have hT1 : StpM (L, K, n, rI, rJ, rQ, fI, fR) bm (L, K, n, rI, rJ, rQ, f1, fR) β := repM_F0 hM (by rw [ef1, g_up_i _ _ _ _ (by decide)]) (fun b hb => by rw [ef1, g_up_other _ _ _ hb])
  have hf1 : f1 (bm 0) 0 = nI cc := by rw [ef1, g_up_at]
  refine lv_aload_n hx hb dX3_flag_20 rfl (lv_at hl 0 rfl) ?_
  refine r_Model_thrown hx hb hts (by decide +kernel) hown hK hG mL0 mK0 (hts (.fieldLink RX3 45 "DotStoresModel" "thrown" "I") (by decide +kernel)) dX3_flag_21 ?_
  refine lv_topi (fun z1 ez1 => ?_)
  obtain rfl : z1 = nI cc := ez1.trans (hf1)
  refine lv_if_le (tgt := 31) hx hb dX3_flag_24 (by decide) (fun c1 => ?_) (fun c1 => ?_)
  · have hc0 : cc = 0 := Nat.le_zero.mp (nI_le_of (a := 0) (b := cc) (by have := ref_le hrf; omega) c1)
    subst hc0
    obtain ⟨q, hq, rfl, hlt, hg⟩ := ref_0 hrf
    refine lv_aload_n hx hb dX3_flag_31 rfl (lv_at hl 0 rfl) ?_
    refine lv_iload_n hx hb dX3_flag_32 rfl (lv_at hl 1 rfl) ?_
    refine lv_iload_n hx hb dX3_flag_33 rfl (lv_at hl 2 rfl) ?_
    refine lv_iload_n hx hb dX3_flag_34 rfl (lv_at hl 3 rfl) ?_
    refine lv_iload hx hb dX3_flag_35 (lv_at hl 4 rfl) ?_
    refine g_calli (va_runV (As := [.int (nI q), .int key, .int el, .int (bi on)]) (rest := []) ⟨hx, hb, hml, hown, hts⟩ (k_change l G base hT1.1 (q := q) (key := key) (part := el) (on := on) hq hlt hg) (cwV 4 hts gX3_flag_X3_change rfl rfl rfl (by decide +kernel) ⟨(Nat.le_of_ble_eq_true rfl), (Nat.le_of_ble_eq_true rfl)⟩) (g_pv3 hK hG mL0 mK0) rfl rfl hl.1 rfl (lv_room (Nat.le_of_ble_eq_true rfl)) dX3_flag_37 ⟨(Nat.le_of_ble_eq_true rfl), (Nat.le_of_ble_eq_true rfl)⟩) hG (fun y3 u H locs hp hG => ?_)
    obtain ⟨i4, j4, f4⟩ := u
    obtain ⟨e3, ef3, hF4⟩ := hp
    replace hG : gw G base s.heap (L, K, n, i4, j4, rQ, f4, fR) H locs := hG
    replace e3 : y3 = nI (b_nd β) := e3
    subst e3
    replace ef3 : f4 (bm 0) 0 = f1 (bm 0) 0 := ef3
    replace hF4 : StpM (L, K, n, rI, rJ, rQ, fI, fR) bm (L, K, n, i4, j4, rQ, f4, fR) (bTurn β q key el on) := hT1.tr hF4
    refine W.widen (k := 0) (n := 0) (by omega) (by omega) ?_
    exact W.iret (v := (nI (b_nd β))) hx hb hr (fun t9 h9 hW9 => ⟨⟨(nI (b_nd β)), ((i4, j4, f4), 0), rfl, ⟨ef3.trans hf1, ⟨pb, hpb, hrf⟩, Or.inl ⟨rfl, rfl, q, hq, rfl, hF4⟩⟩, hG.at h9⟩, hG.2.2.1.F h9⟩) hG.2.2.1.2.2 dX3_flag_40
  · have hc0 : cc ≠ 0 := fun z => c1 (by rw [z]; decide)
    refine lv_iconst (v := 0) hx hb dX3_flag_27 (by decide) ?_
    refine lv_goto (tgt := 40) hx hb dX3_flag_28 (by decide) ?_
    refine W.widen (k := 0) (n := 0) (by omega) (by omega) ?_
    exact W.iret (v := 0) hx hb hr (fun t9 h9 hW9 => ⟨⟨0, ((rI, rJ, f1), cc), rfl, ⟨hf1, ⟨pb, hpb, hrf⟩, Or.inr ⟨hc0, hT1⟩⟩, hG.at h9⟩, hG.2.2.1.F h9⟩) hG.2.2.1.2.2 dX3_flag_40
set_option maxHeartbeats 4000000 in
set_option maxRecDepth 100000 in
/-- write -/
theorem k_write (l : Launch) (G : gG) (base : Nat) {L : List Nat} {K n : Nat → Nat} {rI : Nat → Nat → Int32} {rJ : Nat → Nat → Int64} {rQ : Nat → Nat → Option Nat} {fI : Nat → Nat → Int32} {fR : Nat → Nat → Option Nat} {bm : Nat → Nat} {β : bT} (hM : RepM (L, K, n, rI, rJ, rQ, fI, fR) bm β) {v key : Int32} {x9 : Int64} : Met l yX3_write wsX3_write ({ frames := 4, cells := 0, slots := 0, locals := 93 }) (va_Pc [.ref (bm 0), .int v, .int key, .long x9] (g_Pr G base (L, K, n, rI, rJ, rQ, fI, fR))) (g_Qi G base (fun u : ((Nat → Nat → Int32) × (Nat → Nat → Int64) × (Nat → Nat → Int32)) × Nat => (L, K, n, u.1.1, u.1.2.1, rQ, u.1.2.2, fR)) (fun x u => u.1.2.2 (bm 0) 0 = nI u.2 ∧ refI β v key true 1 true u.2 ∧ ((u.2 = 0 ∧ x = nI (b_nd β) ∧ ∃ q, q < 6 ∧ v = nI q ∧ StpM (L, K, n, rI, rJ, rQ, fI, fR) bm (L, K, n, u.1.1, u.1.2.1, rQ, u.1.2.2, fR) (bWrite β q key x9)) ∨ (u.2 ≠ 0 ∧ StpM (L, K, n, rI, rJ, rQ, fI, fR) bm (L, K, n, u.1.1, u.1.2.1, rQ, u.1.2.2, fR) β)))) 0 0 (g_A base) := by
  have hMd : isMd L K n fR bm := hM.1
  have hMd0 := hMd
  obtain ⟨minj, mL0, mK0, ⟨mf2, mf3, mf4, mf5, mf6, mf7, mf8, mf9, mf10, mf11, mf13⟩, ⟨mL2, mK2, mn2⟩, ⟨mL3, mK3, mn3⟩, ⟨mL4, mK4, mn4⟩, ⟨mL5, mK5, mn5⟩, ⟨mL6, mK6, mn6⟩, ⟨mL7, mK7, mn7⟩, ⟨mL8, mK8, mn8⟩, ⟨mL9, mK9, mn9⟩, ⟨mL10, mK10, mn10⟩, ⟨mL11, mK11, mn11⟩, ⟨mL13, mK13, mn13⟩⟩ := hMd0
  have hdl : fI (bm 0) 1 = nI (b_nd β) := hM.2.1.1
  have hnd : b_nd β ≤ 250 := hM.2.1.2
  refine Met.ofW (cc := cX3_write) (maxL := 6) (ret := (some .int)) (by decide) rfl ?_
  intro p e s m args below meth c s₁ B hml hv
  obtain ⟨rfl, hPr⟩ := hv
  have hx := B.exec
  have hb := B.bytes
  have hr := B.returns
  have hts := atoms_spec (ws := wsX3_write) B.pre
  have hown : s.vm.findClass RX3 = some m.cls := findClass_of_methodNamed B.named
  have hlocks := B.notSynchronized
  have hin : meth.name = "write" := (name_of_methodNamed B.named B.method).1
  have hK := hPr.2.2
  have hG := hPr.gw
  have hl := lv_entry ([.ref (bm 0), .int v, .int key, .long x9]) (n := 6) (Nat.le_of_ble_eq_true rfl)
  rw [lg_entry_eq]
  generalize (lg_sl ([.ref (bm 0), .int v, .int key, .long x9]) ++ List.replicate (6 - (lg_sl ([.ref (bm 0), .int v, .int key, .long x9])).length) Slot.unset).toArray = ls at hl ⊢
  have hl : lv_has ls 6 [(0, .ref (bm 0)), (1, .int v), (2, .int key), (3, .long x9)] := hl
  refine g_start hPr (fun H locs hG => ?_)
  refine lv_aload_n hx hb dX3_write_0 rfl (lv_at hl 0 rfl) ?_
  refine lv_aload_n hx hb dX3_write_1 rfl (lv_at hl 0 rfl) ?_
  refine lv_iload_n hx hb dX3_write_2 rfl (lv_at hl 1 rfl) ?_
  refine lv_iload_n hx hb dX3_write_3 rfl (lv_at hl 2 rfl) ?_
  refine lv_iconst (v := 1) hx hb dX3_write_4 (by decide) ?_
  refine lv_iconst (v := 1) hx hb dX3_write_5 (by decide) ?_
  refine lv_iconst (v := 1) hx hb dX3_write_6 (by decide) ?_
  refine g_calli (va_runV (As := [.int v, .int key, .int 1, .int 1, .int 1]) (rest := [.ref (bm 0)]) ⟨hx, hb, hml, hown, hts⟩ (k_refusal l G base hM (v := v) (key := key) (pi := true) (kd := 1) (on := true)) (cwV 5 hts gX3_write_X3_refusal rfl rfl rfl (by decide +kernel) ⟨(Nat.le_of_ble_eq_true rfl), (Nat.le_of_ble_eq_true rfl)⟩) (g_pv3 hK hG mL0 mK0) rfl rfl hl.1 rfl (lv_room (Nat.le_of_ble_eq_true rfl)) dX3_write_7 ⟨(Nat.le_of_ble_eq_true rfl), (Nat.le_of_ble_eq_true rfl)⟩) hG (fun y2 cc H locs hp hG => ?_)
  obtain ⟨e2, hrf⟩ := hp
  subst e2
  refine w_Model_thrown hx hb hts (by decide +kernel) hown hK hG mL0 mK0 (hts (.fieldLink RX3 45 "DotStoresModel" "thrown" "I") (by decide +kernel)) dX3_write_10 (fun H locs hG => ?_)
  obtain ⟨f1, ef1⟩ : ∃ z, z = g_up fI (bm 0) 0 (nI cc) := ⟨_, rfl⟩
  replace hG : gw G base s.heap (L, K, n, rI, rJ, rQ, f1, fR) H locs := by rw [ef1]; exact hG
  have hT1 : StpM (L, K, n, rI, rJ, rQ, fI, fR) bm (L, K, n, rI, rJ, rQ, f1, fR) β := repM_F0 hM (by rw [ef1, g_up_i _ _ _ _ (by decide)]) (fun b hb => by rw [ef1, g_up_other _ _ _ hb])
  have hf1 : f1 (bm 0) 0 = nI cc := by rw [ef1, g_up_at]
  refine lv_aload_n hx hb dX3_write_13 rfl (lv_at hl 0 rfl) ?_
  refine r_Model_thrown hx hb hts (by decide +kernel) hown hK hG mL0 mK0 (hts (.fieldLink RX3 45 "DotStoresModel" "thrown" "I") (by decide +kernel)) dX3_write_14 ?_
  refine lv_topi (fun z1 ez1 => ?_)
  obtain rfl : z1 = nI cc := ez1.trans (hf1)
  refine lv_if_le (tgt := 22) hx hb dX3_write_17 (by decide) (fun c1 => ?_) (fun c1 => ?_)
  · have hc0 : cc = 0 := Nat.le_zero.mp (nI_le_of (a := 0) (b := cc) (by have := ref_le hrf; omega) c1)
    subst hc0
    obtain ⟨q, hq, rfl, hlt, hg⟩ := ref_0 hrf
    refine lv_aload_n hx hb dX3_write_22 rfl (lv_at hl 0 rfl) ?_
    refine g_calli (va_runV (As := []) (rest := []) ⟨hx, hb, hml, hown, hts⟩ (k_fresh l G base hT1.1 hlt) (cwV 0 hts gX3_write_X3_fresh rfl rfl rfl (by decide +kernel) ⟨(Nat.le_of_ble_eq_true rfl), (Nat.le_of_ble_eq_true rfl)⟩) (g_pv3 hK hG mL0 mK0) rfl rfl hl.1 rfl (lv_room (Nat.le_of_ble_eq_true rfl)) dX3_write_23 ⟨(Nat.le_of_ble_eq_true rfl), (Nat.le_of_ble_eq_true rfl)⟩) hG (fun y7 u H locs hp hG => ?_)
    obtain ⟨i1, j1⟩ := u
    obtain ⟨e7, hF1⟩ := hp
    replace hG : gw G base s.heap (L, K, n, i1, j1, rQ, f1, fR) H locs := hG
    replace e7 : y7 = nI (6 + b_nd β) := e7
    subst e7
    replace hF1 : StpM (L, K, n, rI, rJ, rQ, fI, fR) bm (L, K, n, i1, j1, rQ, f1, fR) (bEmp β (6 + b_nd β)) := hT1.tr hF1
    refine lv_istore (lv' := [(5, .int (nI (6 + b_nd β))), (0, .ref (bm 0)), (1, .int (nI q)), (2, .int key), (3, .long x9)]) hx hb dX3_write_26 hl (by decide) rfl (fun ls hl => ?_)
    refine lv_aload_n hx hb dX3_write_28 rfl (lv_at hl 1 rfl) ?_
    refine lv_iload_n hx hb dX3_write_29 rfl (lv_at hl 2 rfl) ?_
    refine lv_iload hx hb dX3_write_30 (lv_at hl 0 rfl) ?_
    refine lv_iload_n hx hb dX3_write_32 rfl (lv_at hl 3 rfl) ?_
    refine lv_iconst (v := (-1)) hx hb dX3_write_33 (by decide) ?_
    refine lv_iconst (v := (-1)) hx hb dX3_write_34 (by decide) ?_
    refine g_calll (va_runV (As := [.int (nI q), .int (nI (6 + b_nd β)), .int key, .int (-1), .int (-1)]) (rest := []) ⟨hx, hb, hml, hown, hts⟩ (k_takeBack l G base hF1.1 (s9 := q) (D := 6 + b_nd β) (key := key) (part := (-1)) (whose := (-1)) (by omega) (by omega)) (cwV 5 hts gX3_write_X3_takeBack rfl rfl rfl (by decide +kernel) ⟨(Nat.le_of_ble_eq_true rfl), (Nat.le_of_ble_eq_true rfl)⟩) (g_pv3 hK hG mL0 mK0) rfl rfl hl.1 rfl (lv_room (Nat.le_of_ble_eq_true rfl)) dX3_write_35 ⟨(Nat.le_of_ble_eq_true rfl), (Nat.le_of_ble_eq_true rfl)⟩) hG (fun y8 j2 H locs hp hG => ?_)
    obtain ⟨e8, hF2⟩ := hp
    replace hF2 : StpM (L, K, n, rI, rJ, rQ, fI, fR) bm (L, K, n, i1, j2, rQ, f1, fR) (bBack (bEmp β (6 + b_nd β)) q (6 + b_nd β) key (-1) (-1)) := hF1.tr hF2
    refine lv_pop2_2 hx hb dX3_write_38 rfl ?_
    refine lv_aload_n hx hb dX3_write_39 rfl (lv_at hl 1 rfl) ?_
    refine lv_iload_n hx hb dX3_write_40 rfl (lv_at hl 2 rfl) ?_
    refine lv_iload hx hb dX3_write_41 (lv_at hl 0 rfl) ?_
    refine lv_iload_n hx hb dX3_write_43 rfl (lv_at hl 3 rfl) ?_
    refine lv_iconst (v := 0) hx hb dX3_write_44 (by decide) ?_
    refine lv_lload_n hx hb dX3_write_45 rfl (lv_at hl 4 rfl) ?_
    refine g_callv (va_runV (As := [.int (nI q), .int (nI (6 + b_nd β)), .int key, .int 0, .long x9]) (rest := []) ⟨hx, hb, hml, hown, hts⟩ (k_newDot l G base hF2.1 (q := q) (D := 6 + b_nd β) (key := key) (part := 0) (v := x9) hq (by omega) (by rw [bG_back (by omega)]; exact (hg rfl))) (cwV 5 hts gX3_write_X3_newDot rfl rfl rfl (by decide +kernel) ⟨(Nat.le_of_ble_eq_true rfl), (Nat.le_of_ble_eq_true rfl)⟩) (g_pv3 hK hG mL0 mK0) rfl rfl hl.1 rfl (lv_room (Nat.le_of_ble_eq_true rfl)) dX3_write_46 ⟨(Nat.le_of_ble_eq_true rfl), (Nat.le_of_ble_eq_true rfl)⟩) hG (fun u H locs hp hG => ?_)
    obtain ⟨i3, j3⟩ := u
    replace hG : gw G base s.heap (L, K, n, i3, j3, rQ, f1, fR) H locs := hG
    have hF3 : StpM (L, K, n, rI, rJ, rQ, fI, fR) bm (L, K, n, i3, j3, rQ, f1, fR) (bNew (bBack (bEmp β (6 + b_nd β)) q (6 + b_nd β) key (-1) (-1)) q (6 + b_nd β) key 0 (x9)) := hF2.tr hp
    refine lv_aload_n hx hb dX3_write_49 rfl (lv_at hl 1 rfl) ?_
    refine lv_iload_n hx hb dX3_write_50 rfl (lv_at hl 2 rfl) ?_
    refine lv_iload hx hb dX3_write_51 (lv_at hl 0 rfl) ?_
    refine g_calli (va_runV (As := [.int (nI q), .int (nI (6 + b_nd β))]) (rest := []) ⟨hx, hb, hml, hown, hts⟩ (k_done l G base hF3.1 (q := q) (k := 6 + b_nd β) (by omega) (by omega) hlt) (cwV 2 hts gX3_write_X3_done rfl rfl rfl (by decide +kernel) ⟨(Nat.le_of_ble_eq_true rfl), (Nat.le_of_ble_eq_true rfl)⟩) (g_pv3 hK hG mL0 mK0) rfl rfl hl.1 rfl (lv_room (Nat.le_of_ble_eq_true rfl)) dX3_write_53 ⟨(Nat.le_of_ble_eq_true rfl), (Nat.le_of_ble_eq_true rfl)⟩) hG (fun y9 u H locs hp hG => ?_)
    obtain ⟨i4, j4, f4⟩ := u
    obtain ⟨e9, ef9, hF4⟩ := hp
    replace hG : gw G base s.heap (L, K, n, i4, j4, rQ, f4, fR) H locs := hG
    replace e9 : y9 = nI (b_nd β) := e9
    subst e9
    replace ef9 : f4 (bm 0) 0 = f1 (bm 0) 0 := ef9
    replace hF4 : StpM (L, K, n, rI, rJ, rQ, fI, fR) bm (L, K, n, i4, j4, rQ, f4, fR) (bWrite β q key x9) := hF3.tr hF4
    refine W.widen (k := 0) (n := 0) (by omega) (by omega) ?_
    exact W.iret (v := (nI (b_nd β))) hx hb hr (fun t9 h9 hW9 => ⟨⟨(nI (b_nd β)), ((i4, j4, f4), 0), rfl, ⟨ef9.trans hf1, hrf, Or.inl ⟨rfl, rfl, q, hq, rfl, hF4⟩⟩, hG.at h9⟩, hG.2.2.1.F h9⟩) hG.2.2.1.2.2 dX3_write_56
  · have hc0 : cc ≠ 0 := fun z => c1 (by rw [z]; decide)
    refine lv_iconst (v := 0) hx hb dX3_write_20 (by decide) ?_
    refine W.widen (k := 0) (n := 0) (by omega) (by omega) ?_
    exact W.iret (v := 0) hx hb hr (fun t9 h9 hW9 => ⟨⟨0, ((rI, rJ, f1), cc), rfl, ⟨hf1, hrf, Or.inr ⟨hc0, hT1⟩⟩, hG.at h9⟩, hG.2.2.1.F h9⟩) hG.2.2.1.2.2 dX3_write_21
set_option maxHeartbeats 4000000 in
set_option maxRecDepth 100000 in
/-- count -/
theorem k_count (l : Launch) (G : gG) (base : Nat) {L : List Nat} {K n : Nat → Nat} {rI : Nat → Nat → Int32} {rJ : Nat → Nat → Int64} {rQ : Nat → Nat → Option Nat} {fI : Nat → Nat → Int32} {fR : Nat → Nat → Option Nat} {bm : Nat → Nat} {β : bT} (hM : RepM (L, K, n, rI, rJ, rQ, fI, fR) bm β) {v key : Int32} {x9 : Int64} : Met l yX3_count wsX3_count ({ frames := 4, cells := 0, slots := 0, locals := 93 }) (va_Pc [.ref (bm 0), .int v, .int key, .long x9] (g_Pr G base (L, K, n, rI, rJ, rQ, fI, fR))) (g_Qi G base (fun u : ((Nat → Nat → Int32) × (Nat → Nat → Int64) × (Nat → Nat → Int32)) × Nat => (L, K, n, u.1.1, u.1.2.1, rQ, u.1.2.2, fR)) (fun x u => u.1.2.2 (bm 0) 0 = nI u.2 ∧ refI β v key true 2 true u.2 ∧ ((u.2 = 0 ∧ x = nI (b_nd β) ∧ ∃ q, q < 6 ∧ v = nI q ∧ StpM (L, K, n, rI, rJ, rQ, fI, fR) bm (L, K, n, u.1.1, u.1.2.1, rQ, u.1.2.2, fR) (bCount β q key x9)) ∨ (u.2 ≠ 0 ∧ StpM (L, K, n, rI, rJ, rQ, fI, fR) bm (L, K, n, u.1.1, u.1.2.1, rQ, u.1.2.2, fR) β)))) 0 0 (g_A base) := by
  have hMd : isMd L K n fR bm := hM.1
  have hMd0 := hMd
  obtain ⟨minj, mL0, mK0, ⟨mf2, mf3, mf4, mf5, mf6, mf7, mf8, mf9, mf10, mf11, mf13⟩, ⟨mL2, mK2, mn2⟩, ⟨mL3, mK3, mn3⟩, ⟨mL4, mK4, mn4⟩, ⟨mL5, mK5, mn5⟩, ⟨mL6, mK6, mn6⟩, ⟨mL7, mK7, mn7⟩, ⟨mL8, mK8, mn8⟩, ⟨mL9, mK9, mn9⟩, ⟨mL10, mK10, mn10⟩, ⟨mL11, mK11, mn11⟩, ⟨mL13, mK13, mn13⟩⟩ := hMd0
  have hdl : fI (bm 0) 1 = nI (b_nd β) := hM.2.1.1
  have hnd : b_nd β ≤ 250 := hM.2.1.2
  refine Met.ofW (cc := cX3_count) (maxL := 8) (ret := (some .int)) (by decide) rfl ?_
  intro p e s m args below meth c s₁ B hml hv
  obtain ⟨rfl, hPr⟩ := hv
  have hx := B.exec
  have hb := B.bytes
  have hr := B.returns
  have hts := atoms_spec (ws := wsX3_count) B.pre
  have hown : s.vm.findClass RX3 = some m.cls := findClass_of_methodNamed B.named
  have hlocks := B.notSynchronized
  have hin : meth.name = "count" := (name_of_methodNamed B.named B.method).1
  have hK := hPr.2.2
  have hG := hPr.gw
  have hl := lv_entry ([.ref (bm 0), .int v, .int key, .long x9]) (n := 8) (Nat.le_of_ble_eq_true rfl)
  rw [lg_entry_eq]
  generalize (lg_sl ([.ref (bm 0), .int v, .int key, .long x9]) ++ List.replicate (8 - (lg_sl ([.ref (bm 0), .int v, .int key, .long x9])).length) Slot.unset).toArray = ls at hl ⊢
  have hl : lv_has ls 8 [(0, .ref (bm 0)), (1, .int v), (2, .int key), (3, .long x9)] := hl
  refine g_start hPr (fun H locs hG => ?_)
  refine lv_aload_n hx hb dX3_count_0 rfl (lv_at hl 0 rfl) ?_
  refine lv_aload_n hx hb dX3_count_1 rfl (lv_at hl 0 rfl) ?_
  refine lv_iload_n hx hb dX3_count_2 rfl (lv_at hl 1 rfl) ?_
  refine lv_iload_n hx hb dX3_count_3 rfl (lv_at hl 2 rfl) ?_
  refine lv_iconst (v := 1) hx hb dX3_count_4 (by decide) ?_
  refine lv_iconst (v := 2) hx hb dX3_count_5 (by decide) ?_
  refine lv_iconst (v := 1) hx hb dX3_count_6 (by decide) ?_
  refine g_calli (va_runV (As := [.int v, .int key, .int 1, .int 2, .int 1]) (rest := [.ref (bm 0)]) ⟨hx, hb, hml, hown, hts⟩ (k_refusal l G base hM (v := v) (key := key) (pi := true) (kd := 2) (on := true)) (cwV 5 hts gX3_count_X3_refusal rfl rfl rfl (by decide +kernel) ⟨(Nat.le_of_ble_eq_true rfl), (Nat.le_of_ble_eq_true rfl)⟩) (g_pv3 hK hG mL0 mK0) rfl rfl hl.1 rfl (lv_room (Nat.le_of_ble_eq_true rfl)) dX3_count_7 ⟨(Nat.le_of_ble_eq_true rfl), (Nat.le_of_ble_eq_true rfl)⟩) hG (fun y2 cc H locs hp hG => ?_)
  obtain ⟨e2, hrf⟩ := hp
  subst e2
  refine w_Model_thrown hx hb hts (by decide +kernel) hown hK hG mL0 mK0 (hts (.fieldLink RX3 45 "DotStoresModel" "thrown" "I") (by decide +kernel)) dX3_count_10 (fun H locs hG => ?_)
  obtain ⟨f1, ef1⟩ : ∃ z, z = g_up fI (bm 0) 0 (nI cc) := ⟨_, rfl⟩
  replace hG : gw G base s.heap (L, K, n, rI, rJ, rQ, f1, fR) H locs := by rw [ef1]; exact hG
  have hT1 : StpM (L, K, n, rI, rJ, rQ, fI, fR) bm (L, K, n, rI, rJ, rQ, f1, fR) β := repM_F0 hM (by rw [ef1, g_up_i _ _ _ _ (by decide)]) (fun b hb => by rw [ef1, g_up_other _ _ _ hb])
  have hf1 : f1 (bm 0) 0 = nI cc := by rw [ef1, g_up_at]
  refine lv_aload_n hx hb dX3_count_13 rfl (lv_at hl 0 rfl) ?_
  refine r_Model_thrown hx hb hts (by decide +kernel) hown hK hG mL0 mK0 (hts (.fieldLink RX3 45 "DotStoresModel" "thrown" "I") (by decide +kernel)) dX3_count_14 ?_
  refine lv_topi (fun z1 ez1 => ?_)
  obtain rfl : z1 = nI cc := ez1.trans (hf1)
  refine lv_if_le (tgt := 22) hx hb dX3_count_17 (by decide) (fun c1 => ?_) (fun c1 => ?_)
  · have hc0 : cc = 0 := Nat.le_zero.mp (nI_le_of (a := 0) (b := cc) (by have := ref_le hrf; omega) c1)
    subst hc0
    obtain ⟨q, hq, rfl, hlt, hg⟩ := ref_0 hrf
    refine lv_aload_n hx hb dX3_count_22 rfl (lv_at hl 0 rfl) ?_
    refine g_calli (va_runV (As := []) (rest := []) ⟨hx, hb, hml, hown, hts⟩ (k_fresh l G base hT1.1 hlt) (cwV 0 hts gX3_count_X3_fresh rfl rfl rfl (by decide +kernel) ⟨(Nat.le_of_ble_eq_true rfl), (Nat.le_of_ble_eq_true rfl)⟩) (g_pv3 hK hG mL0 mK0) rfl rfl hl.1 rfl (lv_room (Nat.le_of_ble_eq_true rfl)) dX3_count_23 ⟨(Nat.le_of_ble_eq_true rfl), (Nat.le_of_ble_eq_true rfl)⟩) hG (fun y7 u H locs hp hG => ?_)
    obtain ⟨i1, j1⟩ := u
    obtain ⟨e7, hF1⟩ := hp
    replace hG : gw G base s.heap (L, K, n, i1, j1, rQ, f1, fR) H locs := hG
    replace e7 : y7 = nI (6 + b_nd β) := e7
    subst e7
    replace hF1 : StpM (L, K, n, rI, rJ, rQ, fI, fR) bm (L, K, n, i1, j1, rQ, f1, fR) (bEmp β (6 + b_nd β)) := hT1.tr hF1
    refine lv_istore (lv' := [(5, .int (nI (6 + b_nd β))), (0, .ref (bm 0)), (1, .int (nI q)), (2, .int key), (3, .long x9)]) hx hb dX3_count_26 hl (by decide) rfl (fun ls hl => ?_)
    refine lv_aload_n hx hb dX3_count_28 rfl (lv_at hl 1 rfl) ?_
    refine lv_iload_n hx hb dX3_count_29 rfl (lv_at hl 2 rfl) ?_
    refine lv_iload hx hb dX3_count_30 (lv_at hl 0 rfl) ?_
    refine lv_iload_n hx hb dX3_count_32 rfl (lv_at hl 3 rfl) ?_
    refine lv_iconst (v := (-1)) hx hb dX3_count_33 (by decide) ?_
    refine lv_iload_n hx hb dX3_count_34 rfl (lv_at hl 2 rfl) ?_
    refine g_calll (va_runV (As := [.int (nI q), .int (nI (6 + b_nd β)), .int key, .int (-1), .int (nI q)]) (rest := []) ⟨hx, hb, hml, hown, hts⟩ (k_takeBack l G base hF1.1 (s9 := q) (D := 6 + b_nd β) (key := key) (part := (-1)) (whose := (nI q)) (by omega) (by omega)) (cwV 5 hts gX3_count_X3_takeBack rfl rfl rfl (by decide +kernel) ⟨(Nat.le_of_ble_eq_true rfl), (Nat.le_of_ble_eq_true rfl)⟩) (g_pv3 hK hG mL0 mK0) rfl rfl hl.1 rfl (lv_room (Nat.le_of_ble_eq_true rfl)) dX3_count_35 ⟨(Nat.le_of_ble_eq_true rfl), (Nat.le_of_ble_eq_true rfl)⟩) hG (fun y8 j2 H locs hp hG => ?_)
    obtain ⟨e8, hF2⟩ := hp
    replace hF2 : StpM (L, K, n, rI, rJ, rQ, fI, fR) bm (L, K, n, i1, j2, rQ, f1, fR) (bBack (bEmp β (6 + b_nd β)) q (6 + b_nd β) key (-1) (nI q)) := hF1.tr hF2
    replace e8 : y8 = sumN (livB (bEmp β (6 + b_nd β)) q key (-1) (nI q)) (valB (bEmp β (6 + b_nd β))) 600 := e8
    subst e8
    refine lv_lstore (lv' := [(6, .long (sumN (livB (bEmp β (6 + b_nd β)) q key (-1) (nI q)) (valB (bEmp β (6 + b_nd β))) 600)), (5, .int (nI (6 + b_nd β))), (0, .ref (bm 0)), (1, .int (nI q)), (2, .int key), (3, .long x9)]) hx hb dX3_count_38 hl (by decide) rfl (fun ls hl => ?_)
    refine lv_aload_n hx hb dX3_count_40 rfl (lv_at hl 2 rfl) ?_
    refine lv_iload_n hx hb dX3_count_41 rfl (lv_at hl 3 rfl) ?_
    refine lv_iload hx hb dX3_count_42 (lv_at hl 1 rfl) ?_
    refine lv_iload_n hx hb dX3_count_44 rfl (lv_at hl 4 rfl) ?_
    refine lv_iconst (v := 0) hx hb dX3_count_45 (by decide) ?_
    refine lv_lload hx hb dX3_count_46 (lv_at hl 0 rfl) ?_
    refine lv_lload_n hx hb dX3_count_48 rfl (lv_at hl 5 rfl) ?_
    refine lv_ladd hx hb dX3_count_49 ?_
    refine g_callv (va_runV (As := [.int (nI q), .int (nI (6 + b_nd β)), .int key, .int 0, .long ((sumN (livB (bEmp β (6 + b_nd β)) q key (-1) (nI q)) (valB (bEmp β (6 + b_nd β))) 600) + x9)]) (rest := []) ⟨hx, hb, hml, hown, hts⟩ (k_newDot l G base hF2.1 (q := q) (D := 6 + b_nd β) (key := key) (part := 0) (v := sumN (livB (bEmp β (6 + b_nd β)) q key (-1) (nI q)) (valB (bEmp β (6 + b_nd β))) 600 + x9) hq (by omega) (by rw [bG_back (by omega)]; exact (hg rfl))) (cwV 5 hts gX3_count_X3_newDot rfl rfl rfl (by decide +kernel) ⟨(Nat.le_of_ble_eq_true rfl), (Nat.le_of_ble_eq_true rfl)⟩) (g_pv3 hK hG mL0 mK0) rfl rfl hl.1 rfl (lv_room (Nat.le_of_ble_eq_true rfl)) dX3_count_50 ⟨(Nat.le_of_ble_eq_true rfl), (Nat.le_of_ble_eq_true rfl)⟩) hG (fun u H locs hp hG => ?_)
    obtain ⟨i3, j3⟩ := u
    replace hG : gw G base s.heap (L, K, n, i3, j3, rQ, f1, fR) H locs := hG
    have hF3 : StpM (L, K, n, rI, rJ, rQ, fI, fR) bm (L, K, n, i3, j3, rQ, f1, fR) (bNew (bBack (bEmp β (6 + b_nd β)) q (6 + b_nd β) key (-1) (nI q)) q (6 + b_nd β) key 0 (sumN (livB (bEmp β (6 + b_nd β)) q key (-1) (nI q)) (valB (bEmp β (6 + b_nd β))) 600 + x9)) := hF2.tr hp
    refine lv_aload_n hx hb dX3_count_53 rfl (lv_at hl 2 rfl) ?_
    refine lv_iload_n hx hb dX3_count_54 rfl (lv_at hl 3 rfl) ?_
    refine lv_iload hx hb dX3_count_55 (lv_at hl 1 rfl) ?_
    refine g_calli (va_runV (As := [.int (nI q), .int (nI (6 + b_nd β))]) (rest := []) ⟨hx, hb, hml, hown, hts⟩ (k_done l G base hF3.1 (q := q) (k := 6 + b_nd β) (by omega) (by omega) hlt) (cwV 2 hts gX3_count_X3_done rfl rfl rfl (by decide +kernel) ⟨(Nat.le_of_ble_eq_true rfl), (Nat.le_of_ble_eq_true rfl)⟩) (g_pv3 hK hG mL0 mK0) rfl rfl hl.1 rfl (lv_room (Nat.le_of_ble_eq_true rfl)) dX3_count_57 ⟨(Nat.le_of_ble_eq_true rfl), (Nat.le_of_ble_eq_true rfl)⟩) hG (fun y9 u H locs hp hG => ?_)
    obtain ⟨i4, j4, f4⟩ := u
    obtain ⟨e9, ef9, hF4⟩ := hp
    replace hG : gw G base s.heap (L, K, n, i4, j4, rQ, f4, fR) H locs := hG
    replace e9 : y9 = nI (b_nd β) := e9
    subst e9
    replace ef9 : f4 (bm 0) 0 = f1 (bm 0) 0 := ef9
    replace hF4 : StpM (L, K, n, rI, rJ, rQ, fI, fR) bm (L, K, n, i4, j4, rQ, f4, fR) (bCount β q key x9) := hF3.tr hF4
    refine W.widen (k := 0) (n := 0) (by omega) (by omega) ?_
    exact W.iret (v := (nI (b_nd β))) hx hb hr (fun t9 h9 hW9 => ⟨⟨(nI (b_nd β)), ((i4, j4, f4), 0), rfl, ⟨ef9.trans hf1, hrf, Or.inl ⟨rfl, rfl, q, hq, rfl, hF4⟩⟩, hG.at h9⟩, hG.2.2.1.F h9⟩) hG.2.2.1.2.2 dX3_count_60
  · have hc0 : cc ≠ 0 := fun z => c1 (by rw [z]; decide)
    refine lv_iconst (v := 0) hx hb dX3_count_20 (by decide) ?_
    refine W.widen (k := 0) (n := 0) (by omega) (by omega) ?_
    exact W.iret (v := 0) hx hb hr (fun t9 h9 hW9 => ⟨⟨0, ((rI, rJ, f1), cc), rfl, ⟨hf1, hrf, Or.inr ⟨hc0, hT1⟩⟩, hG.at h9⟩, hG.2.2.1.F h9⟩) hG.2.2.1.2.2 dX3_count_21
